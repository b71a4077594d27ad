set_option maxRecDepth 100000
set_option maxHeartbeats 4000000
def bcap (c x : Int32) : Int32 := if c ≤ x then 0 else 1
def bpos (x : Int32) : Int32 := if x ≤ 0 then 0 else 1
theorem bcap_of {c x b : Int32} (h : (c ≤ x ∧ b = 0) ∨ (¬ c ≤ x ∧ b = 1)) : b = bcap c x := by
  unfold bcap
  rcases h with ⟨h1, h⟩ | ⟨h1, h⟩
  · rw [if_pos h1, h]
  · rw [if_neg h1, h]
theorem bpos_of {x b : Int32} (h : (x ≤ 0 ∧ b = 0) ∨ (¬ x ≤ 0 ∧ b = 1)) : b = bpos x := by
  unfold bpos
  rcases h with ⟨h1, h⟩ | ⟨h1, h⟩
  · rw [if_pos h1, h]
  · rw [if_neg h1, h]
def FIv (F : Nat → Int32) : Prop := IV (F 6) 0 8 ∧ IV (F 7) 0 4 ∧ IV (F 8) 0 12 ∧ IV (F 9) 0 8 ∧ IV (F 10) 0 6 ∧ IV (F 11) 0 4 ∧ IV (F 13) 0 6 ∧ IV (F 14) 0 6
theorem opn_inr {F T : Nat → Int32} {n c x a b : Int32} (h : opnS F T n (bcap c x) a = .inr b) : x.toInt < c.toInt ∧ F 15 ≠ 0 ∧ b = nx T n a := by
  unfold opnS bcap at h
  by_cases q : c ≤ x
  · rw [if_pos q, if_pos rfl] at h; cases h
  · rw [if_neg q, if_neg one0] at h
    rw [le_I] at q
    by_cases q2 : F 15 = 0
    · rw [if_pos q2] at h; cases h
    · rw [if_neg q2] at h
      exact ⟨by omega, q2, (Sum.inr.inj h).symm⟩
theorem st_reelLine {F T L F2 L2 : Nat → Int32} {n a en fd ft ns pl tk wh at2 en2 fd2 ft2 ns2 pl2 tk2 wh2 : Int32} (h0 : fd = 1) (h : R_m_reelLineX n a en tk wh ns ft pl fd T L F at2 en2 fd2 ft2 F2 L2 ns2 pl2 tk2 wh2) : fd2 = 1 ∧ ft2 = ft ∧ pl2 = pl := by
  unfold R_m_reelLineX at h
  rcases h with ⟨q, -⟩ | h
  · rw [h0] at q; exact absurd q one0
  · refine exA10 h ?_
    clear h
    intro zn0 k1 k2 k3 k4 k5 k6 k7 k8 k9 k10
    clear zn0
    exact ⟨by rw [k3, h0], k4, k8⟩
theorem st_townLine {F T L F2 L2 : Nat → Int32} {n a en fd ft ns pl tk wh at2 en2 fd2 ft2 ns2 pl2 tk2 wh2 : Int32} (h0 : fd = 1) (h : R_m_townLineX n a en tk wh ns ft pl fd T L F at2 en2 fd2 ft2 F2 L2 ns2 pl2 tk2 wh2) : fd2 = 1 ∧ ft2 = ft ∧ pl2 = pl := by
  unfold R_m_townLineX at h
  rcases h with ⟨q, -⟩ | h
  · rw [h0] at q; exact absurd q one0
  · refine exA10 h ?_
    clear h
    intro zn0 k1 k2 k3 k4 k5 k6 k7 k8 k9 k10
    clear zn0
    exact ⟨by rw [k3, h0], k4, k8⟩
theorem st_markLine {F T L F2 L2 : Nat → Int32} {n a en fd ft ns pl tk wh at2 en2 fd2 ft2 ns2 pl2 tk2 wh2 : Int32} (h0 : fd = 1) (h : R_m_markLineX n a en tk wh ns ft pl fd T L F at2 en2 fd2 ft2 F2 L2 ns2 pl2 tk2 wh2) : fd2 = 1 ∧ ft2 = ft ∧ pl2 = pl := by
  unfold R_m_markLineX at h
  rcases h with ⟨q, -⟩ | h
  · rw [h0] at q; exact absurd q one0
  · refine exA10 h ?_
    clear h
    intro zn0 k1 k2 k3 k4 k5 k6 k7 k8 k9 k10
    clear zn0
    exact ⟨by rw [k3, h0], k4, k8⟩
theorem st_joinLine {F T L F2 L2 : Nat → Int32} {n a en fd ft ns pl tk wh at2 en2 fd2 ft2 ns2 pl2 tk2 wh2 : Int32} (h0 : fd = 1) (h : R_m_joinLineX n a en tk wh ns ft pl fd T L F at2 en2 fd2 ft2 F2 L2 ns2 pl2 tk2 wh2) : fd2 = 1 ∧ ft2 = ft ∧ pl2 = pl := by
  unfold R_m_joinLineX at h
  rcases h with ⟨q, -⟩ | h
  · rw [h0] at q; exact absurd q one0
  · refine exA10 h ?_
    clear h
    intro zn0 k1 k2 k3 k4 k5 k6 k7 k8 k9 k10
    clear zn0
    exact ⟨by rw [k3, h0], k4, k8⟩
theorem st_weakLine {F T L F2 L2 : Nat → Int32} {n a en fd ft ns pl tk wh at2 en2 fd2 ft2 ns2 pl2 tk2 wh2 : Int32} (h0 : fd = 1) (h : R_m_weakLineX n a en tk wh ns ft pl fd T L F at2 en2 fd2 ft2 F2 L2 ns2 pl2 tk2 wh2) : fd2 = 1 ∧ ft2 = ft ∧ pl2 = pl := by
  unfold R_m_weakLineX at h
  rcases h with ⟨q, -⟩ | h
  · rw [h0] at q; exact absurd q one0
  · refine exA10 h ?_
    clear h
    intro zn0 k1 k2 k3 k4 k5 k6 k7 k8 k9 k10
    clear zn0
    exact ⟨by rw [k3, h0], k4, k8⟩
theorem st_manLine {F T L F2 L2 : Nat → Int32} {n a en fd ft ns pl tk wh at2 en2 fd2 ft2 ns2 pl2 tk2 wh2 : Int32} (h0 : fd = 1) (h : R_m_manLineX n a en tk wh ns ft pl fd T L F at2 en2 fd2 ft2 F2 L2 ns2 pl2 tk2 wh2) : fd2 = 1 ∧ ft2 = ft ∧ pl2 = pl := by
  unfold R_m_manLineX at h
  rcases h with ⟨q, -⟩ | h
  · rw [h0] at q; exact absurd q one0
  · refine exA10 h ?_
    clear h
    intro zn0 k1 k2 k3 k4 k5 k6 k7 k8 k9 k10
    clear zn0
    exact ⟨by rw [k3, h0], k4, k8⟩
theorem st_showsLine {F T L F2 L2 : Nat → Int32} {n a en fd ft ns pl tk wh at2 en2 fd2 ft2 ns2 pl2 tk2 wh2 : Int32} (h0 : fd = 1) (h : R_m_showsLineX n a en tk wh ns ft pl fd T L F at2 en2 fd2 ft2 F2 L2 ns2 pl2 tk2 wh2) : fd2 = 1 ∧ ft2 = ft ∧ pl2 = pl := by
  unfold R_m_showsLineX at h
  rcases h with ⟨q, -⟩ | h
  · rw [h0] at q; exact absurd q one0
  · refine exA10 h ?_
    clear h
    intro zn0 k1 k2 k3 k4 k5 k6 k7 k8 k9 k10
    clear zn0
    exact ⟨by rw [k3, h0], k4, k8⟩
theorem st_boysLine {F T L F2 L2 : Nat → Int32} {n a en fd ft ns pl tk wh at2 en2 fd2 ft2 ns2 pl2 tk2 wh2 : Int32} (h0 : fd = 1) (h : R_m_boysLineX n a en tk wh ns ft pl fd T L F at2 en2 fd2 ft2 F2 L2 ns2 pl2 tk2 wh2) : fd2 = 1 ∧ ft2 = ft ∧ pl2 = pl := by
  unfold R_m_boysLineX at h
  rcases h with ⟨q, -⟩ | h
  · rw [h0] at q; exact absurd q one0
  · refine exA10 h ?_
    clear h
    intro zn0 k1 k2 k3 k4 k5 k6 k7 k8 k9 k10
    clear zn0
    exact ⟨by rw [k3, h0], k4, k8⟩
theorem st_scratchLine {F T L F2 L2 : Nat → Int32} {n a en fd ft ns pl tk wh at2 en2 fd2 ft2 ns2 pl2 tk2 wh2 : Int32} (h0 : fd = 1) (h : R_m_scratchLineX n a en tk wh ns ft pl fd T L F at2 en2 fd2 ft2 F2 L2 ns2 pl2 tk2 wh2) : fd2 = 1 ∧ ft2 = ft ∧ pl2 = pl := by
  unfold R_m_scratchLineX at h
  rcases h with ⟨q, -⟩ | h
  · rw [h0] at q; exact absurd q one0
  · refine exA10 h ?_
    clear h
    intro zn0 k1 k2 k3 k4 k5 k6 k7 k8 k9 k10
    clear zn0
    exact ⟨by rw [k3, h0], k4, k8⟩
noncomputable def lineS (F T : Nat → Int32) (n a : Int32) : Rs ((Nat → Int32) × Int32) := @ite _ (IsW T n a "house") (Classical.propDecidable _) (houseS F T n a) (@ite _ (IsW T n a "reel") (Classical.propDecidable _) (bnd (opnS F T n (bcap 8 (F 6)) a) (reelS F T n)) (@ite _ (IsW T n a "town") (Classical.propDecidable _) (bnd (opnS F T n (bcap 4 (F 7)) a) (townS F T n)) (@ite _ (IsW T n a "mark") (Classical.propDecidable _) (bnd (opnS F T n (bcap 12 (F 8)) a) (markS F T n)) (@ite _ (IsW T n a "join") (Classical.propDecidable _) (bnd (opnS F T n (bcap 8 (F 9)) a) (joinS F T n)) (@ite _ (IsW T n a "weak") (Classical.propDecidable _) (bnd (opnS F T n (bcap 6 (F 10)) a) (weakS F T n)) (@ite _ (IsW T n a "man") (Classical.propDecidable _) (bnd (opnS F T n (bcap 4 (F 11)) a) (manS F T n)) (@ite _ (IsW T n a "shows") (Classical.propDecidable _) (bnd (onceS F T n (bpos (F 12)) a) (showS F T n)) (@ite _ (IsW T n a "boys") (Classical.propDecidable _) (bnd (onceS F T n (bpos (F 134)) a) (boysS F T n)) (@ite _ (IsW T n a "seen") (Classical.propDecidable _) (seenS F T n a) (@ite _ (IsW T n a "scratch") (Classical.propDecidable _) (bnd (opnS F T n (bcap 6 (F 14)) a) (scratchS F T n)) (.inl (1, a))))))))))))
theorem qm_readLine {F T L F2 L2 : Nat → Int32} {n a en fd ft ns pl tk wh at2 en2 fd2 ft2 ns2 pl2 tk2 wh2 : Int32} (hn : IV n 0 900) (hF : FIv F) (hm : MS T n (.inr a) a en fd ft L ns pl tk wh) (h : R_m_readLineX n a en tk wh ns ft pl fd T L F at2 en2 fd2 ft2 F2 L2 ns2 pl2 tk2 wh2) : MF T n F (lineS F T n a) at2 en2 fd2 ft2 F2 L2 ns2 pl2 tk2 wh2 := by
  obtain ⟨s1, s2, s3, s4, s5⟩ := hm
  unfold R_m_readLineX at h
  obtain ⟨i6, i7, i8, i9, i10, i11, i13, i14⟩ := hF
  have sm : MS T n (.inr a) a en fd ft L ns pl tk wh := ⟨s1, s2, rfl, s4, s5⟩
  obtain ⟨r0, hr0, h⟩ := h
  rw [s1] at hr0
  unfold lineS
  rcases m_is_spec wok_house s5 hr0 with ⟨q, c⟩ | ⟨q, c⟩
  · rw [if_pos c]
    rcases h with ⟨q2, -⟩ | ⟨-, h⟩
    · rw [q] at q2; exact absurd q2 one0
    refine exE10 h ?_
    clear h
    intro A E f u G M m p t w hl h
    refine exA9 h ?_
    clear h
    intro k1 k2 k3 k4 k5 k6 k7 k8 k9 k10
    subst k1 k2 k3 k4 k5 k6 k7 k8 k9 k10
    exact qm_houseLine hn sm hl
  rw [if_neg c]
  rcases h with ⟨-, h⟩ | ⟨q2, -⟩
  case inr => exact absurd q q2
  clear hr0 q c
  refine exE1 h ?_
  clear h
  intro z hz h
  refine exE1 h ?_
  clear h
  intro b hb h
  refine exE10 h ?_
  clear h
  intro a1 e1 f1 u1 L1 n1 p1 t1 w1 r1 ho h
  rw [tc6] at hz
  rw [hz] at hb
  have hb := bcap_of hb
  subst hb
  rcases qm_opens hn wok_reel sm ho with ⟨c, q, ms⟩ | ⟨c, q, j1, j2, j3, j4, j5, j6, j7, j8, j9⟩
  · rw [if_pos c]
    rcases h with ⟨q2, -⟩ | ⟨-, h⟩
    · rw [q] at q2; exact absurd q2 one0
    refine exE10 h ?_
    clear h
    intro A E f u G M m p t w hl h
    refine exA9 h ?_
    clear h
    intro k1 k2 k3 k4 k5 k6 k7 k8 k9 k10
    subst k1 k2 k3 k4 k5 k6 k7 k8 k9 k10
    cases ho2 : opnS F T n (bcap 8 (F 6)) a with
    | inl e =>
      rw [ho2] at ms
      refine exA2 (MS_l ms) ?_
      intro y1 y2 y3
      obtain ⟨x1, x2, x3⟩ := st_reelLine y1 hl
      rw [bnd_l]
      exact ⟨x1, by rw [x2, y2], by rw [x3, y3]⟩
    | inr b =>
      rw [ho2] at ms
      refine exA4 (MS_r ms) ?_
      intro y1 y2 y3 y4 y5
      subst y3
      rw [bnd_r]
      exact qm_reelLine hn (show IV (F 6) 0 7 from ⟨i6.1, by have e9 : (8 : Int32).toInt = 8 := (by decide); have := (opn_inr ho2).1; omega⟩) ⟨y1, y2, rfl, y4, y5⟩ hl
  rw [if_neg c]
  rcases h with ⟨-, h⟩ | ⟨q2, -⟩
  case inr => exact absurd q q2
  replace j1 := j1.symm
  replace j2 := j2.symm
  replace j3 := j3.symm
  replace j4 := j4.symm
  replace j5 := j5.symm
  replace j6 := j6.symm
  replace j7 := j7.symm
  replace j8 := j8.symm
  replace j9 := j9.symm
  subst j1 j2 j3 j4 j5 j6 j7 j8 j9
  clear ho q c hz
  refine exE1 h ?_
  clear h
  intro z hz h
  refine exE1 h ?_
  clear h
  intro b hb h
  refine exE10 h ?_
  clear h
  intro a1 e1 f1 u1 L1 n1 p1 t1 w1 r1 ho h
  rw [tc7] at hz
  rw [hz] at hb
  have hb := bcap_of hb
  subst hb
  rcases qm_opens hn wok_town sm ho with ⟨c, q, ms⟩ | ⟨c, q, j1, j2, j3, j4, j5, j6, j7, j8, j9⟩
  · rw [if_pos c]
    rcases h with ⟨q2, -⟩ | ⟨-, h⟩
    · rw [q] at q2; exact absurd q2 one0
    refine exE10 h ?_
    clear h
    intro A E f u G M m p t w hl h
    refine exA9 h ?_
    clear h
    intro k1 k2 k3 k4 k5 k6 k7 k8 k9 k10
    subst k1 k2 k3 k4 k5 k6 k7 k8 k9 k10
    cases ho2 : opnS F T n (bcap 4 (F 7)) a with
    | inl e =>
      rw [ho2] at ms
      refine exA2 (MS_l ms) ?_
      intro y1 y2 y3
      obtain ⟨x1, x2, x3⟩ := st_townLine y1 hl
      rw [bnd_l]
      exact ⟨x1, by rw [x2, y2], by rw [x3, y3]⟩
    | inr b =>
      rw [ho2] at ms
      refine exA4 (MS_r ms) ?_
      intro y1 y2 y3 y4 y5
      subst y3
      rw [bnd_r]
      exact qm_townLine hn (show IV (F 7) 0 3 from ⟨i7.1, by have e9 : (4 : Int32).toInt = 4 := (by decide); have := (opn_inr ho2).1; omega⟩) ⟨y1, y2, rfl, y4, y5⟩ hl
  rw [if_neg c]
  rcases h with ⟨-, h⟩ | ⟨q2, -⟩
  case inr => exact absurd q q2
  replace j1 := j1.symm
  replace j2 := j2.symm
  replace j3 := j3.symm
  replace j4 := j4.symm
  replace j5 := j5.symm
  replace j6 := j6.symm
  replace j7 := j7.symm
  replace j8 := j8.symm
  replace j9 := j9.symm
  subst j1 j2 j3 j4 j5 j6 j7 j8 j9
  clear ho q c hz
  refine exE1 h ?_
  clear h
  intro z hz h
  refine exE1 h ?_
  clear h
  intro b hb h
  refine exE10 h ?_
  clear h
  intro a1 e1 f1 u1 L1 n1 p1 t1 w1 r1 ho h
  rw [tc8] at hz
  rw [hz] at hb
  have hb := bcap_of hb
  subst hb
  rcases qm_opens hn wok_mark sm ho with ⟨c, q, ms⟩ | ⟨c, q, j1, j2, j3, j4, j5, j6, j7, j8, j9⟩
  · rw [if_pos c]
    rcases h with ⟨q2, -⟩ | ⟨-, h⟩
    · rw [q] at q2; exact absurd q2 one0
    refine exE10 h ?_
    clear h
    intro A E f u G M m p t w hl h
    refine exA9 h ?_
    clear h
    intro k1 k2 k3 k4 k5 k6 k7 k8 k9 k10
    subst k1 k2 k3 k4 k5 k6 k7 k8 k9 k10
    cases ho2 : opnS F T n (bcap 12 (F 8)) a with
    | inl e =>
      rw [ho2] at ms
      refine exA2 (MS_l ms) ?_
      intro y1 y2 y3
      obtain ⟨x1, x2, x3⟩ := st_markLine y1 hl
      rw [bnd_l]
      exact ⟨x1, by rw [x2, y2], by rw [x3, y3]⟩
    | inr b =>
      rw [ho2] at ms
      refine exA4 (MS_r ms) ?_
      intro y1 y2 y3 y4 y5
      subst y3
      rw [bnd_r]
      exact qm_markLine hn (show IV (F 8) 0 11 from ⟨i8.1, by have e9 : (12 : Int32).toInt = 12 := (by decide); have := (opn_inr ho2).1; omega⟩) ⟨y1, y2, rfl, y4, y5⟩ hl
  rw [if_neg c]
  rcases h with ⟨-, h⟩ | ⟨q2, -⟩
  case inr => exact absurd q q2
  replace j1 := j1.symm
  replace j2 := j2.symm
  replace j3 := j3.symm
  replace j4 := j4.symm
  replace j5 := j5.symm
  replace j6 := j6.symm
  replace j7 := j7.symm
  replace j8 := j8.symm
  replace j9 := j9.symm
  subst j1 j2 j3 j4 j5 j6 j7 j8 j9
  clear ho q c hz
  refine exE1 h ?_
  clear h
  intro z hz h
  refine exE1 h ?_
  clear h
  intro b hb h
  refine exE10 h ?_
  clear h
  intro a1 e1 f1 u1 L1 n1 p1 t1 w1 r1 ho h
  rw [tc9] at hz
  rw [hz] at hb
  have hb := bcap_of hb
  subst hb
  rcases qm_opens hn wok_join sm ho with ⟨c, q, ms⟩ | ⟨c, q, j1, j2, j3, j4, j5, j6, j7, j8, j9⟩
  · rw [if_pos c]
    rcases h with ⟨q2, -⟩ | ⟨-, h⟩
    · rw [q] at q2; exact absurd q2 one0
    refine exE10 h ?_
    clear h
    intro A E f u G M m p t w hl h
    refine exA9 h ?_
    clear h
    intro k1 k2 k3 k4 k5 k6 k7 k8 k9 k10
    subst k1 k2 k3 k4 k5 k6 k7 k8 k9 k10
    cases ho2 : opnS F T n (bcap 8 (F 9)) a with
    | inl e =>
      rw [ho2] at ms
      refine exA2 (MS_l ms) ?_
      intro y1 y2 y3
      obtain ⟨x1, x2, x3⟩ := st_joinLine y1 hl
      rw [bnd_l]
      exact ⟨x1, by rw [x2, y2], by rw [x3, y3]⟩
    | inr b =>
      rw [ho2] at ms
      refine exA4 (MS_r ms) ?_
      intro y1 y2 y3 y4 y5
      subst y3
      rw [bnd_r]
      exact qm_joinLine hn (show IV (F 9) 0 7 from ⟨i9.1, by have e9 : (8 : Int32).toInt = 8 := (by decide); have := (opn_inr ho2).1; omega⟩) ⟨y1, y2, rfl, y4, y5⟩ hl
  rw [if_neg c]
  rcases h with ⟨-, h⟩ | ⟨q2, -⟩
  case inr => exact absurd q q2
  replace j1 := j1.symm
  replace j2 := j2.symm
  replace j3 := j3.symm
  replace j4 := j4.symm
  replace j5 := j5.symm
  replace j6 := j6.symm
  replace j7 := j7.symm
  replace j8 := j8.symm
  replace j9 := j9.symm
  subst j1 j2 j3 j4 j5 j6 j7 j8 j9
  clear ho q c hz
  refine exE1 h ?_
  clear h
  intro z hz h
  refine exE1 h ?_
  clear h
  intro b hb h
  refine exE10 h ?_
  clear h
  intro a1 e1 f1 u1 L1 n1 p1 t1 w1 r1 ho h
  rw [tc10] at hz
  rw [hz] at hb
  have hb := bcap_of hb
  subst hb
  rcases qm_opens hn wok_weak sm ho with ⟨c, q, ms⟩ | ⟨c, q, j1, j2, j3, j4, j5, j6, j7, j8, j9⟩
  · rw [if_pos c]
    rcases h with ⟨q2, -⟩ | ⟨-, h⟩
    · rw [q] at q2; exact absurd q2 one0
    refine exE10 h ?_
    clear h
    intro A E f u G M m p t w hl h
    refine exA9 h ?_
    clear h
    intro k1 k2 k3 k4 k5 k6 k7 k8 k9 k10
    subst k1 k2 k3 k4 k5 k6 k7 k8 k9 k10
    cases ho2 : opnS F T n (bcap 6 (F 10)) a with
    | inl e =>
      rw [ho2] at ms
      refine exA2 (MS_l ms) ?_
      intro y1 y2 y3
      obtain ⟨x1, x2, x3⟩ := st_weakLine y1 hl
      rw [bnd_l]
      exact ⟨x1, by rw [x2, y2], by rw [x3, y3]⟩
    | inr b =>
      rw [ho2] at ms
      refine exA4 (MS_r ms) ?_
      intro y1 y2 y3 y4 y5
      subst y3
      rw [bnd_r]
      exact qm_weakLine hn (show IV (F 10) 0 5 from ⟨i10.1, by have e9 : (6 : Int32).toInt = 6 := (by decide); have := (opn_inr ho2).1; omega⟩) ⟨y1, y2, rfl, y4, y5⟩ hl
  rw [if_neg c]
  rcases h with ⟨-, h⟩ | ⟨q2, -⟩
  case inr => exact absurd q q2
  replace j1 := j1.symm
  replace j2 := j2.symm
  replace j3 := j3.symm
  replace j4 := j4.symm
  replace j5 := j5.symm
  replace j6 := j6.symm
  replace j7 := j7.symm
  replace j8 := j8.symm
  replace j9 := j9.symm
  subst j1 j2 j3 j4 j5 j6 j7 j8 j9
  clear ho q c hz
  refine exE1 h ?_
  clear h
  intro z hz h
  refine exE1 h ?_
  clear h
  intro b hb h
  refine exE10 h ?_
  clear h
  intro a1 e1 f1 u1 L1 n1 p1 t1 w1 r1 ho h
  rw [tc11] at hz
  rw [hz] at hb
  have hb := bcap_of hb
  subst hb
  rcases qm_opens hn wok_man sm ho with ⟨c, q, ms⟩ | ⟨c, q, j1, j2, j3, j4, j5, j6, j7, j8, j9⟩
  · rw [if_pos c]
    rcases h with ⟨q2, -⟩ | ⟨-, h⟩
    · rw [q] at q2; exact absurd q2 one0
    refine exE10 h ?_
    clear h
    intro A E f u G M m p t w hl h
    refine exA9 h ?_
    clear h
    intro k1 k2 k3 k4 k5 k6 k7 k8 k9 k10
    subst k1 k2 k3 k4 k5 k6 k7 k8 k9 k10
    cases ho2 : opnS F T n (bcap 4 (F 11)) a with
    | inl e =>
      rw [ho2] at ms
      refine exA2 (MS_l ms) ?_
      intro y1 y2 y3
      obtain ⟨x1, x2, x3⟩ := st_manLine y1 hl
      rw [bnd_l]
      exact ⟨x1, by rw [x2, y2], by rw [x3, y3]⟩
    | inr b =>
      rw [ho2] at ms
      refine exA4 (MS_r ms) ?_
      intro y1 y2 y3 y4 y5
      subst y3
      rw [bnd_r]
      exact qm_manLine hn (show IV (F 11) 0 3 from ⟨i11.1, by have e9 : (4 : Int32).toInt = 4 := (by decide); have := (opn_inr ho2).1; omega⟩) ⟨y1, y2, rfl, y4, y5⟩ hl
  rw [if_neg c]
  rcases h with ⟨-, h⟩ | ⟨q2, -⟩
  case inr => exact absurd q q2
  replace j1 := j1.symm
  replace j2 := j2.symm
  replace j3 := j3.symm
  replace j4 := j4.symm
  replace j5 := j5.symm
  replace j6 := j6.symm
  replace j7 := j7.symm
  replace j8 := j8.symm
  replace j9 := j9.symm
  subst j1 j2 j3 j4 j5 j6 j7 j8 j9
  clear ho q c hz
  refine exE1 h ?_
  clear h
  intro z hz h
  refine exE1 h ?_
  clear h
  intro b hb h
  refine exE10 h ?_
  clear h
  intro a1 e1 f1 u1 L1 n1 p1 t1 w1 r1 ho h
  rw [tc12] at hz
  rw [hz] at hb
  have hb := bpos_of hb
  subst hb
  rcases qm_opensOnce hn wok_shows sm ho with ⟨c, q, ms⟩ | ⟨c, q, j1, j2, j3, j4, j5, j6, j7, j8, j9⟩
  · rw [if_pos c]
    rcases h with ⟨q2, -⟩ | ⟨-, h⟩
    · rw [q] at q2; exact absurd q2 one0
    refine exE10 h ?_
    clear h
    intro A E f u G M m p t w hl h
    refine exA9 h ?_
    clear h
    intro k1 k2 k3 k4 k5 k6 k7 k8 k9 k10
    subst k1 k2 k3 k4 k5 k6 k7 k8 k9 k10
    cases ho2 : onceS F T n (bpos (F 12)) a with
    | inl e =>
      rw [ho2] at ms
      refine exA2 (MS_l ms) ?_
      intro y1 y2 y3
      obtain ⟨x1, x2, x3⟩ := st_showsLine y1 hl
      rw [bnd_l]
      exact ⟨x1, by rw [x2, y2], by rw [x3, y3]⟩
    | inr b =>
      rw [ho2] at ms
      refine exA4 (MS_r ms) ?_
      intro y1 y2 y3 y4 y5
      subst y3
      rw [bnd_r]
      exact qm_showsLine hn ⟨y1, y2, rfl, y4, y5⟩ hl
  rw [if_neg c]
  rcases h with ⟨-, h⟩ | ⟨q2, -⟩
  case inr => exact absurd q q2
  replace j1 := j1.symm
  replace j2 := j2.symm
  replace j3 := j3.symm
  replace j4 := j4.symm
  replace j5 := j5.symm
  replace j6 := j6.symm
  replace j7 := j7.symm
  replace j8 := j8.symm
  replace j9 := j9.symm
  subst j1 j2 j3 j4 j5 j6 j7 j8 j9
  clear ho q c hz
  refine exE1 h ?_
  clear h
  intro z hz h
  refine exE1 h ?_
  clear h
  intro b hb h
  refine exE10 h ?_
  clear h
  intro a1 e1 f1 u1 L1 n1 p1 t1 w1 r1 ho h
  rw [tc134] at hz
  rw [hz] at hb
  have hb := bpos_of hb
  subst hb
  rcases qm_opensOnce hn wok_boys sm ho with ⟨c, q, ms⟩ | ⟨c, q, j1, j2, j3, j4, j5, j6, j7, j8, j9⟩
  · rw [if_pos c]
    rcases h with ⟨q2, -⟩ | ⟨-, h⟩
    · rw [q] at q2; exact absurd q2 one0
    refine exE10 h ?_
    clear h
    intro A E f u G M m p t w hl h
    refine exA9 h ?_
    clear h
    intro k1 k2 k3 k4 k5 k6 k7 k8 k9 k10
    subst k1 k2 k3 k4 k5 k6 k7 k8 k9 k10
    cases ho2 : onceS F T n (bpos (F 134)) a with
    | inl e =>
      rw [ho2] at ms
      refine exA2 (MS_l ms) ?_
      intro y1 y2 y3
      obtain ⟨x1, x2, x3⟩ := st_boysLine y1 hl
      rw [bnd_l]
      exact ⟨x1, by rw [x2, y2], by rw [x3, y3]⟩
    | inr b =>
      rw [ho2] at ms
      refine exA4 (MS_r ms) ?_
      intro y1 y2 y3 y4 y5
      subst y3
      rw [bnd_r]
      exact qm_boysLine hn ⟨y1, y2, rfl, y4, y5⟩ hl
  rw [if_neg c]
  rcases h with ⟨-, h⟩ | ⟨q2, -⟩
  case inr => exact absurd q q2
  replace j1 := j1.symm
  replace j2 := j2.symm
  replace j3 := j3.symm
  replace j4 := j4.symm
  replace j5 := j5.symm
  replace j6 := j6.symm
  replace j7 := j7.symm
  replace j8 := j8.symm
  replace j9 := j9.symm
  subst j1 j2 j3 j4 j5 j6 j7 j8 j9
  clear ho q c hz
  obtain ⟨r1, hr1, h⟩ := h
  rw [(MS_r sm).1] at hr1
  rcases m_is_spec wok_seen s5 hr1 with ⟨q, c⟩ | ⟨q, c⟩
  · rw [if_pos c]
    rcases h with ⟨q2, -⟩ | ⟨-, h⟩
    · rw [q] at q2; exact absurd q2 one0
    refine exE10 h ?_
    clear h
    intro A E f u G M m p t w hl h
    refine exA9 h ?_
    clear h
    intro k1 k2 k3 k4 k5 k6 k7 k8 k9 k10
    subst k1 k2 k3 k4 k5 k6 k7 k8 k9 k10
    exact qm_seenLine hn i13 sm hl
  rw [if_neg c]
  rcases h with ⟨-, h⟩ | ⟨q2, -⟩
  case inr => exact absurd q q2
  clear hr1 q c
  refine exE1 h ?_
  clear h
  intro z hz h
  refine exE1 h ?_
  clear h
  intro b hb h
  refine exE10 h ?_
  clear h
  intro a1 e1 f1 u1 L1 n1 p1 t1 w1 r1 ho h
  rw [tc14] at hz
  rw [hz] at hb
  have hb := bcap_of hb
  subst hb
  rcases qm_opens hn wok_scratch sm ho with ⟨c, q, ms⟩ | ⟨c, q, j1, j2, j3, j4, j5, j6, j7, j8, j9⟩
  · rw [if_pos c]
    rcases h with ⟨q2, -⟩ | ⟨-, h⟩
    · rw [q] at q2; exact absurd q2 one0
    refine exE10 h ?_
    clear h
    intro A E f u G M m p t w hl h
    refine exA9 h ?_
    clear h
    intro k1 k2 k3 k4 k5 k6 k7 k8 k9 k10
    subst k1 k2 k3 k4 k5 k6 k7 k8 k9 k10
    cases ho2 : opnS F T n (bcap 6 (F 14)) a with
    | inl e =>
      rw [ho2] at ms
      refine exA2 (MS_l ms) ?_
      intro y1 y2 y3
      obtain ⟨x1, x2, x3⟩ := st_scratchLine y1 hl
      rw [bnd_l]
      exact ⟨x1, by rw [x2, y2], by rw [x3, y3]⟩
    | inr b =>
      rw [ho2] at ms
      refine exA4 (MS_r ms) ?_
      intro y1 y2 y3 y4 y5
      subst y3
      rw [bnd_r]
      exact qm_scratchLine hn (show IV (F 14) 0 5 from ⟨i14.1, by have e9 : (6 : Int32).toInt = 6 := (by decide); have := (opn_inr ho2).1; omega⟩) ⟨y1, y2, rfl, y4, y5⟩ hl
  rw [if_neg c]
  rcases h with ⟨-, h⟩ | ⟨q2, -⟩
  case inr => exact absurd q q2
  replace j1 := j1.symm
  replace j2 := j2.symm
  replace j3 := j3.symm
  replace j4 := j4.symm
  replace j5 := j5.symm
  replace j6 := j6.symm
  replace j7 := j7.symm
  replace j8 := j8.symm
  replace j9 := j9.symm
  subst j1 j2 j3 j4 j5 j6 j7 j8 j9
  clear ho q c hz
  refine exE3 h ?_
  clear h
  intro f2 u2 p2 hb h
  refine exA9 h ?_
  clear h
  intro k1 k2 k3 k4 k5 k6 k7 k8 k9 k10
  obtain ⟨x1, x2, x3⟩ := qm_bad (MS_r sm).1 hb
  exact ⟨by rw [k3, x1], by rw [k4, x2], by rw [k8, x3]⟩

set_option maxRecDepth 100000
set_option maxHeartbeats 4000000
/-- the class at the token that begins at a -/
def XS (T : Nat → Int32) (n a kd sta po va : Int32) (le : Int64) : Prop := sta = a ∧ IV a 0 900 ∧ TokX T n a kd po va le
def XL (T : Nat → Int32) (n : Int32) (ρ : Rs Int32) (fn fp r fn2 fp2 kd2 sta2 po2 va2 : Int32) (le2 : Int64) : Prop := match ρ with
  | .inl e => r = 0 ∧ fn2 = e.1 ∧ fp2 = e.2
  | .inr b => r = 1 ∧ fn2 = fn ∧ fp2 = fp ∧ XS T n b kd2 sta2 po2 va2 le2
def XV (T : Nat → Int32) (n a : Int32) (σ : Rs (Int32 × Int32)) (fn fp r fn2 fp2 kd2 sta2 po2 va2 : Int32) (le2 : Int64) (tk2 ta2 : Int32) : Prop := match σ with
  | .inl e => r = 0 ∧ fn2 = e.1 ∧ fp2 = e.2
  | .inr v => r = 1 ∧ fn2 = fn ∧ fp2 = fp ∧ tk2 = v.1 ∧ ta2 = a ∧ XS T n v.2 kd2 sta2 po2 va2 le2
theorem x_next_at {T tp : Nat → Int32} {n a kd sta po va kd2 sta2 po2 va2 : Int32} {le le2 : Int64} (hn : IV n 0 900) (ht : TpR tp T) (hs : XS T n a kd sta po va le) (h : R_x_nextX n po tp kd2 sta2 po2 va2 le2) : XS T n (nx T n a) kd2 sta2 po2 va2 le2 := by
  obtain ⟨s1, s2, s3⟩ := hs
  have e := s3.2.1
  subst e
  obtain ⟨h1, h2⟩ := x_next_spec hn ht (ed_iv' hn s2) h
  exact ⟨h1, nx_iv hn s2, h2⟩
theorem qx_label {T tp : Nat → Int32} {n a fn fp kd sta po va r fn2 fp2 kd2 sta2 po2 va2 : Int32} {le le2 : Int64} {w : String} (hn : IV n 0 900) (ht : TpR tp T) (hw : WOk w) (hs : XS T n a kd sta po va le) (h : R_x_isLabelX fn fp n kd sta po va le tp w fn2 fp2 kd2 sta2 po2 va2 le2 r) : XL T n (labS T n w a) fn fp r fn2 fp2 kd2 sta2 po2 va2 le2 := by
  obtain ⟨s1, s2, s3⟩ := hs
  subst s1
  simp only [R_x_isLabelX] at h
  obtain ⟨r1, hr1, h⟩ := h
  rcases x_is_spec hn s2 ht hw s3 hr1 with ⟨q, hq⟩ | ⟨q, hq⟩
  · rw [lab_p hq]
    rcases h with ⟨-, k, s, p, v, l, hx, k1, k2, k3, k4, k5, k6, k7, k8⟩ | ⟨q2, -⟩
    · have := x_next_at hn ht ⟨rfl, s2, s3⟩ hx
      subst k3 k4 k5 k6 k7
      exact ⟨k8, k1, k2, this⟩
    · rw [q] at q2; exact absurd q2 one0
  · rw [lab_n hq]
    rcases h with ⟨q2, -⟩ | ⟨-, f, p, r2, hr, k1, k2, k3, k4, k5, k6, k7, k8⟩
    · exact absurd q q2
    · obtain ⟨b1, b2, b3⟩ := hr
      exact ⟨by rw [k8, b3], by rw [k1, b1], by rw [k2, b2]⟩
theorem qx_whole {T tp : Nat → Int32} {n a lo hi fn fp kd sta po va tk ta r fn2 fp2 kd2 sta2 po2 va2 tk2 ta2 : Int32} {le le2 : Int64} (hn : IV n 0 900) (ht : TpR tp T) (hs : XS T n a kd sta po va le) (h : R_x_isWholeX lo hi fn fp n kd sta po va le tk ta tp fn2 fp2 kd2 sta2 po2 va2 le2 tk2 ta2 r) : XV T n a (numS T n lo hi a) fn fp r fn2 fp2 kd2 sta2 po2 va2 le2 tk2 ta2 := by
  obtain ⟨s1, s2, s3⟩ := hs
  subst s1
  simp only [R_x_isWholeX] at h
  unfold numS numH
  rcases h with ⟨h1, h⟩ | ⟨h1, f, p, r2, hr, k1, k2, k3, k4, k5, k6, k7, k8, k9, k10⟩
  · have t2 := s3.1.symm.trans h1
    have ev : va = valF T n sta := s3.2.2.2 t2
    rw [if_pos t2, ← ev]
    rcases h with ⟨h2, f, p, r2, hr, k1, k2, k3, k4, k5, k6, k7, k8, k9, k10⟩ | ⟨h2, ⟨h3, k, s, p, v, l, hx, k1, k2, k3, k4, k5, k6, k7, k8, k9, k10⟩ | ⟨h3, f, p, r2, hr, k1, k2, k3, k4, k5, k6, k7, k8, k9, k10⟩⟩
    · obtain ⟨b1, b2, b3⟩ := hr
      rw [if_pos h2]
      exact ⟨by rw [k10, b3], by rw [k1, b1], by rw [k2, b2]⟩
    · have := x_next_at hn ht ⟨rfl, s2, s3⟩ hx
      rw [if_neg h2, if_neg (Int32.not_lt.mpr h3)]
      subst k3 k4 k5 k6 k7
      exact ⟨k10, k1, k2, k8, k9, this⟩
    · obtain ⟨b1, b2, b3⟩ := hr
      rw [if_neg h2, if_pos (Int32.not_le.mp h3)]
      exact ⟨by rw [k10, b3], by rw [k1, b1], by rw [k2, b2]⟩
  · obtain ⟨b1, b2, b3⟩ := hr
    rw [if_neg (fun q => h1 (s3.1.trans q))]
    exact ⟨by rw [k10, b3], by rw [k1, b1], by rw [k2, b2]⟩
theorem qx_reserved {T tp : Nat → Int32} {n a kd po va r : Int32} {le : Int64} (hn : IV n 0 900) (ht : TpR tp T) (ha : IV a 0 900) (hk : TokX T n a kd po va le) (h : R_x_isReservedX kd a po tp r) : (r = 1 ∧ ResW T n a) ∨ (r = 0 ∧ ¬ ResW T n a) := by
  simp only [R_x_isReservedX] at h
  obtain ⟨r1, hr1, h⟩ := h
  rcases x_is_spec hn ha ht wok_house hk hr1 with ⟨q, hq⟩ | ⟨q, n0⟩
  case inl =>
    rcases h with ⟨-, h⟩ | ⟨q2, -⟩
    · exact Or.inl ⟨h, Or.inl hq⟩
    · rw [q] at q2; exact absurd q2 one0
  rcases h with ⟨q2, -⟩ | ⟨-, h⟩
  case inl => exact absurd q q2
  clear hr1 q
  obtain ⟨r1, hr1, h⟩ := h
  rcases x_is_spec hn ha ht wok_reel hk hr1 with ⟨q, hq⟩ | ⟨q, n1⟩
  case inl =>
    rcases h with ⟨-, h⟩ | ⟨q2, -⟩
    · exact Or.inl ⟨h, Or.inr (Or.inl hq)⟩
    · rw [q] at q2; exact absurd q2 one0
  rcases h with ⟨q2, -⟩ | ⟨-, h⟩
  case inl => exact absurd q q2
  clear hr1 q
  obtain ⟨r1, hr1, h⟩ := h
  rcases x_is_spec hn ha ht wok_town hk hr1 with ⟨q, hq⟩ | ⟨q, n2⟩
  case inl =>
    rcases h with ⟨-, h⟩ | ⟨q2, -⟩
    · exact Or.inl ⟨h, Or.inr (Or.inr (Or.inl hq))⟩
    · rw [q] at q2; exact absurd q2 one0
  rcases h with ⟨q2, -⟩ | ⟨-, h⟩
  case inl => exact absurd q q2
  clear hr1 q
  obtain ⟨r1, hr1, h⟩ := h
  rcases x_is_spec hn ha ht wok_mark hk hr1 with ⟨q, hq⟩ | ⟨q, n3⟩
  case inl =>
    rcases h with ⟨-, h⟩ | ⟨q2, -⟩
    · exact Or.inl ⟨h, Or.inr (Or.inr (Or.inr (Or.inl hq)))⟩
    · rw [q] at q2; exact absurd q2 one0
  rcases h with ⟨q2, -⟩ | ⟨-, h⟩
  case inl => exact absurd q q2
  clear hr1 q
  obtain ⟨r1, hr1, h⟩ := h
  rcases x_is_spec hn ha ht wok_join hk hr1 with ⟨q, hq⟩ | ⟨q, n4⟩
  case inl =>
    rcases h with ⟨-, h⟩ | ⟨q2, -⟩
    · exact Or.inl ⟨h, Or.inr (Or.inr (Or.inr (Or.inr (Or.inl hq))))⟩
    · rw [q] at q2; exact absurd q2 one0
  rcases h with ⟨q2, -⟩ | ⟨-, h⟩
  case inl => exact absurd q q2
  clear hr1 q
  obtain ⟨r1, hr1, h⟩ := h
  rcases x_is_spec hn ha ht wok_weak hk hr1 with ⟨q, hq⟩ | ⟨q, n5⟩
  case inl =>
    rcases h with ⟨-, h⟩ | ⟨q2, -⟩
    · exact Or.inl ⟨h, Or.inr (Or.inr (Or.inr (Or.inr (Or.inr (Or.inl hq)))))⟩
    · rw [q] at q2; exact absurd q2 one0
  rcases h with ⟨q2, -⟩ | ⟨-, h⟩
  case inl => exact absurd q q2
  clear hr1 q
  obtain ⟨r1, hr1, h⟩ := h
  rcases x_is_spec hn ha ht wok_man hk hr1 with ⟨q, hq⟩ | ⟨q, n6⟩
  case inl =>
    rcases h with ⟨-, h⟩ | ⟨q2, -⟩
    · exact Or.inl ⟨h, Or.inr (Or.inr (Or.inr (Or.inr (Or.inr (Or.inr (Or.inl hq))))))⟩
    · rw [q] at q2; exact absurd q2 one0
  rcases h with ⟨q2, -⟩ | ⟨-, h⟩
  case inl => exact absurd q q2
  clear hr1 q
  obtain ⟨r1, hr1, h⟩ := h
  rcases x_is_spec hn ha ht wok_shows hk hr1 with ⟨q, hq⟩ | ⟨q, n7⟩
  case inl =>
    rcases h with ⟨-, h⟩ | ⟨q2, -⟩
    · exact Or.inl ⟨h, Or.inr (Or.inr (Or.inr (Or.inr (Or.inr (Or.inr (Or.inr (Or.inl hq)))))))⟩
    · rw [q] at q2; exact absurd q2 one0
  rcases h with ⟨q2, -⟩ | ⟨-, h⟩
  case inl => exact absurd q q2
  clear hr1 q
  obtain ⟨r1, hr1, h⟩ := h
  rcases x_is_spec hn ha ht wok_boys hk hr1 with ⟨q, hq⟩ | ⟨q, n8⟩
  case inl =>
    rcases h with ⟨-, h⟩ | ⟨q2, -⟩
    · exact Or.inl ⟨h, Or.inr (Or.inr (Or.inr (Or.inr (Or.inr (Or.inr (Or.inr (Or.inr (Or.inl hq))))))))⟩
    · rw [q] at q2; exact absurd q2 one0
  rcases h with ⟨q2, -⟩ | ⟨-, h⟩
  case inl => exact absurd q q2
  clear hr1 q
  obtain ⟨r1, hr1, h⟩ := h
  rcases x_is_spec hn ha ht wok_by hk hr1 with ⟨q, hq⟩ | ⟨q, n9⟩
  case inl =>
    rcases h with ⟨-, h⟩ | ⟨q2, -⟩
    · exact Or.inl ⟨h, Or.inr (Or.inr (Or.inr (Or.inr (Or.inr (Or.inr (Or.inr (Or.inr (Or.inr (Or.inl hq)))))))))⟩
    · rw [q] at q2; exact absurd q2 one0
  rcases h with ⟨q2, -⟩ | ⟨-, h⟩
  case inl => exact absurd q q2
  clear hr1 q
  obtain ⟨r1, hr1, h⟩ := h
  rcases x_is_spec hn ha ht wok_seen hk hr1 with ⟨q, hq⟩ | ⟨q, n10⟩
  case inl =>
    rcases h with ⟨-, h⟩ | ⟨q2, -⟩
    · exact Or.inl ⟨h, Or.inr (Or.inr (Or.inr (Or.inr (Or.inr (Or.inr (Or.inr (Or.inr (Or.inr (Or.inr (Or.inl hq))))))))))⟩
    · rw [q] at q2; exact absurd q2 one0
  rcases h with ⟨q2, -⟩ | ⟨-, h⟩
  case inl => exact absurd q q2
  clear hr1 q
  obtain ⟨r1, hr1, h⟩ := h
  rcases x_is_spec hn ha ht wok_scratch hk hr1 with ⟨q, hq⟩ | ⟨q, n11⟩
  case inl =>
    rcases h with ⟨q2, -⟩ | ⟨-, h⟩
    · rw [q] at q2; exact absurd q2 one0
    · exact Or.inl ⟨h, Or.inr (Or.inr (Or.inr (Or.inr (Or.inr (Or.inr (Or.inr (Or.inr (Or.inr (Or.inr (Or.inr (hq)))))))))))⟩
  rcases h with ⟨-, h⟩ | ⟨q2, -⟩
  case inr => exact absurd q q2
  clear hr1 q
  refine Or.inr ⟨h, ?_⟩
  unfold ResW
  rintro (q | q | q | q | q | q | q | q | q | q | q | q)
  · exact n0 q
  · exact n1 q
  · exact n2 q
  · exact n3 q
  · exact n4 q
  · exact n5 q
  · exact n6 q
  · exact n7 q
  · exact n8 q
  · exact n9 q
  · exact n10 q
  · exact n11 q
theorem lgc_self {x : Int64} : lg_cmp x x = 0 := by
  unfold lg_cmp
  simp
theorem lgc_eq {x y : Int64} (h : lg_cmp x y = 0) : x = y := by
  unfold lg_cmp at h
  split at h
  · exact absurd h (by decide)
  · split at h
    · first | assumption | (exact absurd h (by decide))
    · first | assumption | (exact absurd h (by decide))
theorem qx_find_L0 {nmf : Nat → Int64} {le : Int64} {ndn r : Int32} (hd : IV ndn 0 16) : ∀ (f : Nat) (u : Int32) (j : Nat), u.toInt = j → (j : Int) ≤ ndn.toInt → (∀ i : Nat, i < j → nmf i ≠ le) → R_x_findNameX_L0 le nmf ndn r (r = -1) (r = -1) f u → (r = -1 ∧ ∀ i : Nat, (i : Int) < ndn.toInt → nmf i ≠ le) ∨ (∃ i : Nat, (i : Int) < ndn.toInt ∧ r.toInt = i ∧ nmf i = le) := by
  intro f
  induction f with
  | zero => intro u j _ _ _ h; exact h.elim
  | succ f ih =>
    intro u j hj hj2 hall h
    simp only [R_x_findNameX_L0] at h
    rcases h with ⟨h1, h⟩ | ⟨h1, h⟩
    · rw [le_I] at h1
      exact Or.inl ⟨h, fun i hi => hall i (by omega)⟩
    · rw [le_I] at h1
      have e16 : (16 : Int32).toInt = 16 := by decide
      rcases h with ⟨h2, h⟩ | ⟨h2, y, hy, z, hz, h⟩
      · rw [le_I, e16] at h2; omega
      · have ej : u.toNatClampNeg = j := by have := tn_i (z := u) (by omega); omega
        rw [ej] at hy
        rcases h with ⟨h3, z9, h9, h⟩ | ⟨h3, h⟩
        · rw [ofI1] at h9
          have e1 := inc1 (u := u) (z := z9) (a := 0) (b := 900) ⟨by omega, by omega⟩ (by omega) (by omega) h9.symm
          refine ih z9 (j + 1) (by omega) (by omega) (fun i hi => ?_) h
          by_cases q : i = j
          · subst q
            intro w
            exact h3 (by rw [hz, hy, w]; exact lgc_self)
          · exact hall i (by omega)
        · refine Or.inr ⟨j, by omega, by rw [h, hj], ?_⟩
          rw [← hy]
          rw [hz] at h3
          exact lgc_eq h3

theorem addJ {x y : Int64} (h1 : -9223372036854775808 ≤ x.toInt + y.toInt) (h2 : x.toInt + y.toInt < 9223372036854775808) : (x + y).toInt = x.toInt + y.toInt := by
  rw [Int64.toInt_add]
  exact Int.bmod_eq_of_le (by omega) (by omega)
theorem mulJ {x y : Int64} (h1 : -9223372036854775808 ≤ x.toInt * y.toInt) (h2 : x.toInt * y.toInt < 9223372036854775808) : (x * y).toInt = x.toInt * y.toInt := by
  rw [Int64.toInt_mul]
  exact Int.bmod_eq_of_le (by omega) (by omega)
def enN (d : Nat → Nat) : Nat → Nat
  | 0 => 0
  | k + 1 => enN d k * 27 + d k
theorem enN_lt {d : Nat → Nat} : ∀ k : Nat, (∀ j, j < k → d j ≤ 26) → enN d k < 27 ^ k := by
  intro k
  induction k with
  | zero => intro _; rw [enN]; exact Nat.one_pos
  | succ k ih =>
    intro h
    have h1 := ih (fun j hj => h j (by omega))
    have h2 := h k (by omega)
    rw [enN, Nat.pow_succ]
    omega
theorem enN_inj {d e : Nat → Nat} : ∀ k l : Nat, (∀ j, j < k → 1 ≤ d j ∧ d j ≤ 26) → (∀ j, j < l → 1 ≤ e j ∧ e j ≤ 26) → enN d k = enN e l → k = l ∧ ∀ j, j < k → d j = e j := by
  intro k
  induction k with
  | zero =>
    intro l _ he h
    cases l with
    | zero => exact ⟨rfl, fun j hj => by omega⟩
    | succ l => have := he l (by omega); rw [enN, enN] at h; omega
  | succ k ih =>
    intro l hd he h
    cases l with
    | zero => have := hd k (by omega); rw [enN, enN] at h; omega
    | succ l =>
      have h1 := hd k (by omega)
      have h2 := he l (by omega)
      rw [enN, enN] at h
      obtain ⟨e1, e2⟩ := ih l (fun j hj => hd j (by omega)) (fun j hj => he j (by omega)) (by omega)
      subst e1
      refine ⟨rfl, fun j hj => ?_⟩
      by_cases q : j = k
      · subst q; omega
      · exact e2 j (by omega)
theorem enF_N {G : Nat → Int32} {b : Nat} : ∀ k : Nat, k ≤ 8 → (∀ j, j < k → IV (G (b + j)) 97 122) → (enF G b k).toInt = enN (fun j => (G (b + j)).toInt.toNat - 96) k := by
  intro k
  induction k with
  | zero => intro _ _; rw [enF, enN]; decide
  | succ k ih =>
    intro hk h
    have h1 := ih (by omega) (fun j hj => h j (by omega))
    have h2 := h k (by omega)
    have h3 := enN_lt (d := fun j => (G (b + j)).toInt.toNat - 96) k (fun j hj => by have := h j (by omega); show (G (b + j)).toInt.toNat - 96 ≤ 26; omega)
    have h4 : (27 : Nat) ^ k ≤ 27 ^ 8 := Nat.pow_le_pow_right (by decide) (by omega)
    have h5 : (27 : Nat) ^ 8 = 282429536481 := by decide
    rw [enF, enN]
    have e27 : (27 : Int64).toInt = 27 := by decide
    have m1 : (enF G b k * 27).toInt = (enF G b k).toInt * 27 := by
      rw [mulJ (by rw [e27]; omega) (by rw [e27]; omega), e27]
    have a1 : (G (b + k) - 97).toInt = (G (b + k)).toInt - 97 := by
      rw [subI (by rw [n97]; omega) (by rw [n97]; omega), n97]
    have a2 : (G (b + k) - 97 + 1).toInt = (G (b + k)).toInt - 96 := by
      rw [addI (by rw [a1, oneI]; omega) (by rw [a1, oneI]; omega), a1, oneI]; omega
    rw [addJ (by rw [m1, i2l_I, a2]; omega) (by rw [m1, i2l_I, a2]; omega), m1, i2l_I, a2, h1]
    omega
theorem enF_inj {G H : Nat → Int32} {b c k l : Nat} (hk : k ≤ 8) (hl : l ≤ 8) (hG : ∀ j, j < k → IV (G (b + j)) 97 122) (hH : ∀ j, j < l → IV (H (c + j)) 97 122) (h : enF G b k = enF H c l) : k = l ∧ ∀ j, j < k → G (b + j) = H (c + j) := by
  have h1 := enF_N k hk hG
  have h2 := enF_N l hl hH
  rw [h, h2] at h1
  obtain ⟨e1, e2⟩ := enN_inj k l (fun j hj => by have := hG j hj; show 1 ≤ (G (b + j)).toInt.toNat - 96 ∧ (G (b + j)).toInt.toNat - 96 ≤ 26; omega) (fun j hj => by have := hH j hj; show 1 ≤ (H (c + j)).toInt.toNat - 96 ∧ (H (c + j)).toInt.toNat - 96 ≤ 26; omega) (by omega)
  refine ⟨e1, fun j hj => Int32.toInt_inj.mp ?_⟩
  have := e2 j hj
  have g1 := hG j hj
  have g2 := hH j (by omega)
  have this : (G (b + j)).toInt.toNat - 96 = (H (c + j)).toInt.toNat - 96 := this
  omega
theorem enF_congr {G H : Nat → Int32} {b c : Nat} : ∀ k : Nat, (∀ j, j < k → G (b + j) = H (c + j)) → enF G b k = enF H c k := by
  intro k
  induction k with
  | zero => intro _; rfl
  | succ k ih => intro h; rw [enF, enF, ih (fun j hj => h j (by omega)), h k (by omega)]
def slot (s k : Int32) : Nat := if s = 0 then k.toInt.toNat else if s = 1 then 8 + k.toInt.toNat else 12 + k.toInt.toNat
def SortOk (s k : Int32) : Prop := (s = 0 ∧ IV k 0 7) ∨ (s = 1 ∧ IV k 0 3) ∨ (s = 2 ∧ IV k 0 3)
theorem slot_lt {s k : Int32} (h : SortOk s k) : slot s k < 16 := by
  unfold slot
  rcases h with ⟨h1, h2⟩ | ⟨h1, h2⟩ | ⟨h1, h2⟩
  · rw [if_pos h1]; omega
  · rw [if_neg (by rw [h1]; decide), if_pos h1]; omega
  · rw [if_neg (by rw [h1]; decide), if_neg (by rw [h1]; decide)]; omega
def NRow (F : Nat → Int32) (j : Nat) (x : Int64) : Prop := ∃ l : Nat, (F (167 + j)).toInt = l ∧ 1 ≤ l ∧ l ≤ 8 ∧ (∀ k : Nat, k < l → IV (F (183 + 8 * j + k)) 97 122) ∧ x = enF F (183 + 8 * j) l
/-- the class's names are the reference's -/
def NRel (F : Nat → Int32) (nmf : Nat → Int64) (ndf : Nat → Int32) (ndn : Int32) : Prop := IV ndn 0 16 ∧ (∀ i : Nat, (i : Int) < ndn.toInt → SortOk (ndf (2 * i)) (ndf (2 * i + 1)) ∧ NRow F (slot (ndf (2 * i)) (ndf (2 * i + 1))) (nmf i)) ∧ (∀ j : Nat, j < 16 → 0 < (F (167 + j)).toInt → ∃ i : Nat, (i : Int) < ndn.toInt ∧ slot (ndf (2 * i)) (ndf (2 * i + 1)) = j) ∧ (∀ i i' : Nat, (i : Int) < ndn.toInt → (i' : Int) < ndn.toInt → nmf i = nmf i' → i = i')
theorem nm_iff {F T : Nat → Int32} {n a : Int32} {j : Nat} {x : Int64} (hn : IV n 0 900) (ha : IV a 0 900) (h1 : tkF T n a = 1) (hr : NRow F j x) : x = enF T a.toNatClampNeg (lnF T n a) ↔ NmAt F T n a j := by
  obtain ⟨l, e1, e2, e3, e4, e5⟩ := hr
  obtain ⟨q, i, hi, h8, hi1, hl, he⟩ := tk1_inv hn ha h1
  constructor
  · intro h
    rw [e5] at h
    obtain ⟨g1, g2⟩ := enF_inj e3 (by omega) e4 (fun k hk => (word_ch hn ha h1 hk).2) h
    exact ⟨by omega, by omega, fun k hk => g2 k (by omega)⟩
  · rintro ⟨g1, g2, g3⟩
    have : l = lnF T n a := by omega
    subst this
    rw [e5]
    exact enF_congr _ g3
theorem findG_none {F T : Nat → Int32} {n a : Int32} : ∀ g j : Nat, (∀ i : Nat, j ≤ i → i < j + g → ¬ NmAt F T n a i) → findG F T n a g j = -1 := by
  intro g
  induction g with
  | zero => intro j _; rfl
  | succ g ih =>
    intro j h
    rw [findG, if_neg (h j (by omega) (by omega))]
    exact ih (j + 1) (fun i h1 h2 => h i (by omega) (by omega))
theorem findG_some {F T : Nat → Int32} {n a : Int32} {s : Nat} (hs : NmAt F T n a s) (hu : ∀ i : Nat, i < 16 → NmAt F T n a i → i = s) : ∀ g j : Nat, j ≤ s → s < j + g → j + g ≤ 16 → findG F T n a g j = nI s := by
  intro g
  induction g with
  | zero => intro j _ _; omega
  | succ g ih =>
    intro j h1 h2 h3
    rw [findG]
    by_cases q : j = s
    · subst q; rw [if_pos hs]
    · rw [if_neg (fun w => q (hu j (by omega) w))]
      exact ih (j + 1) (by omega) (by omega) (by omega)
theorem qx_find {F T : Nat → Int32} {nmf : Nat → Int64} {ndf : Nat → Int32} {n a ndn r : Int32} (hn : IV n 0 900) (ha : IV a 0 900) (h1 : tkF T n a = 1) (hr : NRel F nmf ndf ndn) (h : R_x_findNameX (enF T a.toNatClampNeg (lnF T n a)) nmf ndn r) : (r = -1 ∧ findS F T n a = -1) ∨ (∃ i : Nat, (i : Int) < ndn.toInt ∧ r.toInt = i ∧ SortOk (ndf (2 * i)) (ndf (2 * i + 1)) ∧ findS F T n a = nI (slot (ndf (2 * i)) (ndf (2 * i + 1)))) := by
  obtain ⟨d1, d2, d3, d4⟩ := hr
  simp only [R_x_findNameX] at h
  obtain ⟨f, h⟩ := h
  rcases qx_find_L0 d1 f 0 0 (by decide) (by have := d1; omega) (fun i hi => by omega) h with ⟨e1, e2⟩ | ⟨i, e1, e2, e3⟩
  · refine Or.inl ⟨e1, findG_none 16 0 (fun j _ hj hN => ?_)⟩
    obtain ⟨i, i1, i2⟩ := d3 j (by omega) hN.1
    have := (d2 i i1).2
    rw [i2] at this
    exact e2 i i1 ((nm_iff hn ha h1 this).mpr hN)
  · obtain ⟨g1, g2⟩ := d2 i e1
    have hN := (nm_iff hn ha h1 g2).mp e3
    refine Or.inr ⟨i, e1, e2, g1, findG_some hN (fun j hj hM => ?_) 16 0 (by first | decide | omega) (by have := slot_lt g1; omega) (by omega)⟩
    obtain ⟨i', i1, i2⟩ := d3 j hj hM.1
    have := (d2 i' i1).2
    rw [i2] at this
    have := d4 i' i i1 e1 (((nm_iff hn ha h1 this).mpr hM).trans e3.symm)
    subst this
    exact i2.symm

set_option maxRecDepth 100000
set_option maxHeartbeats 4000000
theorem tb_ix {R V row col : Int32} (hR : R.toInt ≤ 1000) (hV : V.toInt ≤ 1000) (hr : 0 ≤ row.toInt ∧ row.toInt < R.toInt) (hc : 0 ≤ col.toInt ∧ col.toInt < V.toInt) : (row * V + col).toNatClampNeg = row.toInt.toNat * V.toInt.toNat + col.toInt.toNat := by
  have h1 : row.toInt * V.toInt ≤ 1000 * 1000 := by
    have := Int.mul_le_mul (show row.toInt ≤ 1000 by omega) hV (by omega) (by decide)
    exact this
  have h2 : 0 ≤ row.toInt * V.toInt := Int.mul_nonneg hr.1 (by omega)
  have m1 : (row * V).toInt = row.toInt * V.toInt := mulI (by omega) (by omega)
  have a1 : (row * V + col).toInt = row.toInt * V.toInt + col.toInt := by rw [addI (by rw [m1]; omega) (by rw [m1]; omega), m1]
  have e := tn_i (z := row * V + col) (by rw [a1]; omega)
  have e2 : ((row.toInt.toNat * V.toInt.toNat : Nat) : Int) = row.toInt * V.toInt := by
    rw [Int.natCast_mul, Int.toNat_of_nonneg hr.1, Int.toNat_of_nonneg (by omega)]
  omega
theorem tbAt_in {R V row col : Int32} {f : Nat → Int32} (hR : R.toInt ≤ 1000) (hV : V.toInt ≤ 1000) (hr : 0 ≤ row.toInt ∧ row.toInt < R.toInt) (hc : 0 ≤ col.toInt ∧ col.toInt < V.toInt) : tbAt R V f row col = f (row.toInt.toNat * V.toInt.toNat + col.toInt.toNat) := by
  unfold tbAt
  rw [if_neg (by rw [lt_I, le_I, lt_I, lt_I, zI]; omega), tb_ix hR hV hr hc]
theorem tbPut_in {R V row col v : Int32} {f : Nat → Int32} (hR : R.toInt ≤ 1000) (hV : V.toInt ≤ 1000) (hr : 0 ≤ row.toInt ∧ row.toInt < R.toInt) (hc : 0 ≤ col.toInt ∧ col.toInt < V.toInt) : tbPut R V f row col v = upd f (row.toInt.toNat * V.toInt.toNat + col.toInt.toNat) v := by
  unfold tbPut
  rw [if_neg (by rw [lt_I, le_I, lt_I, lt_I, zI]; omega), tb_ix hR hV hr hc]
theorem tbPut_out {R V row col v : Int32} {f : Nat → Int32} (hc : V.toInt ≤ col.toInt) : tbPut R V f row col v = f := by
  unfold tbPut
  rw [if_pos (by rw [lt_I, le_I, lt_I, lt_I, zI]; omega)]
theorem qt_add8_3 {a b c n k : Int32} {f g : Nat → Int32} (hn : IV n 0 7) (h : R_t_add8_3X a b c n f g k) : g = (upd (upd (upd f (n.toInt.toNat * 3 + 0) a) (n.toInt.toNat * 3 + 1) b) (n.toInt.toNat * 3 + 2) c) ∧ k = n + 1 := by
  simp only [R_t_add8_3X] at h
  obtain ⟨r, hr, h⟩ := h
  have eR : (8 : Int32).toInt = 8 := by decide
  have eV : (3 : Int32).toInt = 3 := by decide
  have o1 : (1 : Int32).toInt = 1 := by decide
  have o2 : (2 : Int32).toInt = 2 := by decide
  rw [if_pos (by rw [lt_I, eR]; omega)] at hr
  rcases h with ⟨-, f1, h1, f2, h2, f3, h3, z, hz, k1, k2⟩ | ⟨q, -⟩
  · refine ⟨?_, by rw [k2, hz]⟩
    rw [k1, h3, h2, h1]
    rw [tbPut_in (col := 2) (by rw [eR]; omega) (by rw [eV]; omega) (by rw [eR]; omega) (by rw [eV]; decide), tbPut_in (col := 1) (by rw [eR]; omega) (by rw [eV]; omega) (by rw [eR]; omega) (by rw [eV]; decide), tbPut_in (col := 0) (by rw [eR]; omega) (by rw [eV]; omega) (by rw [eR]; omega) (by rw [eV]; decide)]
    rfl
  · exact absurd hr q
theorem qt_add4_1 {a b c n k : Int32} {f g : Nat → Int32} (hn : IV n 0 3) (h : R_t_add4_1X a b c n f g k) : g = (upd f (n.toInt.toNat * 1 + 0) a) ∧ k = n + 1 := by
  simp only [R_t_add4_1X] at h
  obtain ⟨r, hr, h⟩ := h
  have eR : (4 : Int32).toInt = 4 := by decide
  have eV : (1 : Int32).toInt = 1 := by decide
  have o1 : (1 : Int32).toInt = 1 := by decide
  have o2 : (2 : Int32).toInt = 2 := by decide
  rw [if_pos (by rw [lt_I, eR]; omega)] at hr
  rcases h with ⟨-, f1, h1, f2, h2, f3, h3, z, hz, k1, k2⟩ | ⟨q, -⟩
  · refine ⟨?_, by rw [k2, hz]⟩
    rw [k1, h3, h2, h1]
    rw [tbPut_out (col := 2) (by rw [eV]; decide), tbPut_out (col := 1) (by rw [eV]; decide), tbPut_in (col := 0) (by rw [eR]; omega) (by rw [eV]; omega) (by rw [eR]; omega) (by rw [eV]; decide)]
    rfl
  · exact absurd hr q
theorem qt_add12_3 {a b c n k : Int32} {f g : Nat → Int32} (hn : IV n 0 11) (h : R_t_add12_3X a b c n f g k) : g = (upd (upd (upd f (n.toInt.toNat * 3 + 0) a) (n.toInt.toNat * 3 + 1) b) (n.toInt.toNat * 3 + 2) c) ∧ k = n + 1 := by
  simp only [R_t_add12_3X] at h
  obtain ⟨r, hr, h⟩ := h
  have eR : (12 : Int32).toInt = 12 := by decide
  have eV : (3 : Int32).toInt = 3 := by decide
  have o1 : (1 : Int32).toInt = 1 := by decide
  have o2 : (2 : Int32).toInt = 2 := by decide
  rw [if_pos (by rw [lt_I, eR]; omega)] at hr
  rcases h with ⟨-, f1, h1, f2, h2, f3, h3, z, hz, k1, k2⟩ | ⟨q, -⟩
  · refine ⟨?_, by rw [k2, hz]⟩
    rw [k1, h3, h2, h1]
    rw [tbPut_in (col := 2) (by rw [eR]; omega) (by rw [eV]; omega) (by rw [eR]; omega) (by rw [eV]; decide), tbPut_in (col := 1) (by rw [eR]; omega) (by rw [eV]; omega) (by rw [eR]; omega) (by rw [eV]; decide), tbPut_in (col := 0) (by rw [eR]; omega) (by rw [eV]; omega) (by rw [eR]; omega) (by rw [eV]; decide)]
    rfl
  · exact absurd hr q
theorem qt_add8_2 {a b c n k : Int32} {f g : Nat → Int32} (hn : IV n 0 7) (h : R_t_add8_2X a b c n f g k) : g = (upd (upd f (n.toInt.toNat * 2 + 0) a) (n.toInt.toNat * 2 + 1) b) ∧ k = n + 1 := by
  simp only [R_t_add8_2X] at h
  obtain ⟨r, hr, h⟩ := h
  have eR : (8 : Int32).toInt = 8 := by decide
  have eV : (2 : Int32).toInt = 2 := by decide
  have o1 : (1 : Int32).toInt = 1 := by decide
  have o2 : (2 : Int32).toInt = 2 := by decide
  rw [if_pos (by rw [lt_I, eR]; omega)] at hr
  rcases h with ⟨-, f1, h1, f2, h2, f3, h3, z, hz, k1, k2⟩ | ⟨q, -⟩
  · refine ⟨?_, by rw [k2, hz]⟩
    rw [k1, h3, h2, h1]
    rw [tbPut_out (col := 2) (by rw [eV]; decide), tbPut_in (col := 1) (by rw [eR]; omega) (by rw [eV]; omega) (by rw [eR]; omega) (by rw [eV]; decide), tbPut_in (col := 0) (by rw [eR]; omega) (by rw [eV]; omega) (by rw [eR]; omega) (by rw [eV]; decide)]
    rfl
  · exact absurd hr q
theorem qt_add6_3 {a b c n k : Int32} {f g : Nat → Int32} (hn : IV n 0 5) (h : R_t_add6_3X a b c n f g k) : g = (upd (upd (upd f (n.toInt.toNat * 3 + 0) a) (n.toInt.toNat * 3 + 1) b) (n.toInt.toNat * 3 + 2) c) ∧ k = n + 1 := by
  simp only [R_t_add6_3X] at h
  obtain ⟨r, hr, h⟩ := h
  have eR : (6 : Int32).toInt = 6 := by decide
  have eV : (3 : Int32).toInt = 3 := by decide
  have o1 : (1 : Int32).toInt = 1 := by decide
  have o2 : (2 : Int32).toInt = 2 := by decide
  rw [if_pos (by rw [lt_I, eR]; omega)] at hr
  rcases h with ⟨-, f1, h1, f2, h2, f3, h3, z, hz, k1, k2⟩ | ⟨q, -⟩
  · refine ⟨?_, by rw [k2, hz]⟩
    rw [k1, h3, h2, h1]
    rw [tbPut_in (col := 2) (by rw [eR]; omega) (by rw [eV]; omega) (by rw [eR]; omega) (by rw [eV]; decide), tbPut_in (col := 1) (by rw [eR]; omega) (by rw [eV]; omega) (by rw [eR]; omega) (by rw [eV]; decide), tbPut_in (col := 0) (by rw [eR]; omega) (by rw [eV]; omega) (by rw [eR]; omega) (by rw [eV]; decide)]
    rfl
  · exact absurd hr q
theorem qt_add4_3 {a b c n k : Int32} {f g : Nat → Int32} (hn : IV n 0 3) (h : R_t_add4_3X a b c n f g k) : g = (upd (upd (upd f (n.toInt.toNat * 3 + 0) a) (n.toInt.toNat * 3 + 1) b) (n.toInt.toNat * 3 + 2) c) ∧ k = n + 1 := by
  simp only [R_t_add4_3X] at h
  obtain ⟨r, hr, h⟩ := h
  have eR : (4 : Int32).toInt = 4 := by decide
  have eV : (3 : Int32).toInt = 3 := by decide
  have o1 : (1 : Int32).toInt = 1 := by decide
  have o2 : (2 : Int32).toInt = 2 := by decide
  rw [if_pos (by rw [lt_I, eR]; omega)] at hr
  rcases h with ⟨-, f1, h1, f2, h2, f3, h3, z, hz, k1, k2⟩ | ⟨q, -⟩
  · refine ⟨?_, by rw [k2, hz]⟩
    rw [k1, h3, h2, h1]
    rw [tbPut_in (col := 2) (by rw [eR]; omega) (by rw [eV]; omega) (by rw [eR]; omega) (by rw [eV]; decide), tbPut_in (col := 1) (by rw [eR]; omega) (by rw [eV]; omega) (by rw [eR]; omega) (by rw [eV]; decide), tbPut_in (col := 0) (by rw [eR]; omega) (by rw [eV]; omega) (by rw [eR]; omega) (by rw [eV]; decide)]
    rfl
  · exact absurd hr q
theorem qt_add6_2 {a b c n k : Int32} {f g : Nat → Int32} (hn : IV n 0 5) (h : R_t_add6_2X a b c n f g k) : g = (upd (upd f (n.toInt.toNat * 2 + 0) a) (n.toInt.toNat * 2 + 1) b) ∧ k = n + 1 := by
  simp only [R_t_add6_2X] at h
  obtain ⟨r, hr, h⟩ := h
  have eR : (6 : Int32).toInt = 6 := by decide
  have eV : (2 : Int32).toInt = 2 := by decide
  have o1 : (1 : Int32).toInt = 1 := by decide
  have o2 : (2 : Int32).toInt = 2 := by decide
  rw [if_pos (by rw [lt_I, eR]; omega)] at hr
  rcases h with ⟨-, f1, h1, f2, h2, f3, h3, z, hz, k1, k2⟩ | ⟨q, -⟩
  · refine ⟨?_, by rw [k2, hz]⟩
    rw [k1, h3, h2, h1]
    rw [tbPut_out (col := 2) (by rw [eV]; decide), tbPut_in (col := 1) (by rw [eR]; omega) (by rw [eV]; omega) (by rw [eR]; omega) (by rw [eV]; decide), tbPut_in (col := 0) (by rw [eR]; omega) (by rw [eV]; omega) (by rw [eR]; omega) (by rw [eV]; decide)]
    rfl
  · exact absurd hr q
theorem qt_add1_3 {a b c n k : Int32} {f g : Nat → Int32} (hn : IV n 0 0) (h : R_t_add1_3X a b c n f g k) : g = (upd (upd (upd f (n.toInt.toNat * 3 + 0) a) (n.toInt.toNat * 3 + 1) b) (n.toInt.toNat * 3 + 2) c) ∧ k = n + 1 := by
  simp only [R_t_add1_3X] at h
  obtain ⟨r, hr, h⟩ := h
  have eR : (1 : Int32).toInt = 1 := by decide
  have eV : (3 : Int32).toInt = 3 := by decide
  have o1 : (1 : Int32).toInt = 1 := by decide
  have o2 : (2 : Int32).toInt = 2 := by decide
  rw [if_pos (by rw [lt_I, eR]; omega)] at hr
  rcases h with ⟨-, f1, h1, f2, h2, f3, h3, z, hz, k1, k2⟩ | ⟨q, -⟩
  · refine ⟨?_, by rw [k2, hz]⟩
    rw [k1, h3, h2, h1]
    rw [tbPut_in (col := 2) (by rw [eR]; omega) (by rw [eV]; omega) (by rw [eR]; omega) (by rw [eV]; decide), tbPut_in (col := 1) (by rw [eR]; omega) (by rw [eV]; omega) (by rw [eR]; omega) (by rw [eV]; decide), tbPut_in (col := 0) (by rw [eR]; omega) (by rw [eV]; omega) (by rw [eR]; omega) (by rw [eV]; decide)]
    rfl
  · exact absurd hr q
theorem qt_add16_2 {a b c n k : Int32} {f g : Nat → Int32} (hn : IV n 0 15) (h : R_t_add16_2X a b c n f g k) : g = (upd (upd f (n.toInt.toNat * 2 + 0) a) (n.toInt.toNat * 2 + 1) b) ∧ k = n + 1 := by
  simp only [R_t_add16_2X] at h
  obtain ⟨r, hr, h⟩ := h
  have eR : (16 : Int32).toInt = 16 := by decide
  have eV : (2 : Int32).toInt = 2 := by decide
  have o1 : (1 : Int32).toInt = 1 := by decide
  have o2 : (2 : Int32).toInt = 2 := by decide
  rw [if_pos (by rw [lt_I, eR]; omega)] at hr
  rcases h with ⟨-, f1, h1, f2, h2, f3, h3, z, hz, k1, k2⟩ | ⟨q, -⟩
  · refine ⟨?_, by rw [k2, hz]⟩
    rw [k1, h3, h2, h1]
    rw [tbPut_out (col := 2) (by rw [eV]; decide), tbPut_in (col := 1) (by rw [eR]; omega) (by rw [eV]; omega) (by rw [eR]; omega) (by rw [eV]; decide), tbPut_in (col := 0) (by rw [eR]; omega) (by rw [eV]; omega) (by rw [eR]; omega) (by rw [eV]; decide)]
    rfl
  · exact absurd hr q

theorem row0 : (0 : Int32).toInt = 0 := by decide
noncomputable def townP (F T : Nat → Int32) (n a : Int32) : Rs (Int32 × Int32) := bnd (oldS F T n 8 11 a) (fun r => .inr (r, nx T n a))
theorem slot0 {k : Int32} : slot 0 k = k.toInt.toNat := rfl
theorem slot1 {k : Int32} : slot 1 k = 8 + k.toInt.toNat := by unfold slot; rw [if_neg (by decide), if_pos rfl]
theorem slot2 {k : Int32} : slot 2 k = 12 + k.toInt.toNat := by unfold slot; rw [if_neg (by decide), if_neg (by decide)]
theorem nd_at {ndf : Nat → Int32} {r : Int32} {i : Nat} (hr : r.toInt = i) (hi : i < 16) : tbAt 16 2 ndf r 0 = ndf (2 * i) ∧ tbAt 16 2 ndf r 1 = ndf (2 * i + 1) := by
  have e16 : (16 : Int32).toInt = 16 := by decide
  have e2 : (2 : Int32).toInt = 2 := by decide
  have h0 := tbAt_in (R := 16) (V := 2) (row := r) (col := 0) (f := ndf) (by decide) (by decide) (by rw [e16]; omega) (by decide)
  have h1 := tbAt_in (R := 16) (V := 2) (row := r) (col := 1) (f := ndf) (by decide) (by decide) (by rw [e16]; omega) (by decide)
  rw [e2, row0] at h0
  rw [e2, oneI] at h1
  have e : r.toInt.toNat = i := by omega
  rw [e] at h0 h1
  have z0 : i * (2 : Int).toNat + (0 : Int).toNat = 2 * i := by show i * 2 + 0 = 2 * i; omega
  have z1 : i * (2 : Int).toNat + (1 : Int).toNat = 2 * i + 1 := by show i * 2 + 1 = 2 * i + 1; omega
  rw [z0] at h0
  rw [z1] at h1
  exact ⟨h0, h1⟩
theorem qx_oldR {F T tp : Nat → Int32} {nmf : Nat → Int64} {ndf : Nat → Int32} {n a ndn fn fp kd sta po va tk ta r fn2 fp2 kd2 sta2 po2 va2 tk2 ta2 : Int32} {le le2 : Int64} (hn : IV n 0 900) (ht : TpR tp T) (hr : NRel F nmf ndf ndn) (hs : XS T n a kd sta po va le) (h : R_x_isOldNameX 0 fn fp n kd sta po va le tk ta tp nmf ndn ndf fn2 fp2 kd2 sta2 po2 va2 le2 tk2 ta2 r) : XV T n a (reelP F T n a) fn fp r fn2 fp2 kd2 sta2 po2 va2 le2 tk2 ta2 := by
  obtain ⟨s1, s2, s3⟩ := hs
  subst s1
  simp only [R_x_isOldNameX] at h
  unfold reelP oldS
  rcases h with ⟨h1, f, p, r2, ⟨b1, b2, b3⟩, k1, k2, k3, k4, k5, k6, k7, k8, k9, k10⟩ | ⟨h1, r1, hr1, h⟩
  · rw [if_neg (fun q => h1 (s3.1.trans q.1)), bnd_l]
    exact ⟨by rw [k10, b3], by rw [k1, b1], by rw [k2, b2]⟩
  · have t1 := s3.1.symm.trans h1
    rcases qx_reserved hn ht s2 s3 hr1 with ⟨q1, q2⟩ | ⟨q1, q2⟩
    · rcases h with ⟨q3, -⟩ | ⟨-, f, p, r2, ⟨b1, b2, b3⟩, k1, k2, k3, k4, k5, k6, k7, k8, k9, k10⟩
      · rw [q1] at q3; exact absurd q3 one0
      · rw [if_neg (fun q => q.2 q2), bnd_l]
        exact ⟨by rw [k10, b3], by rw [k1, b1], by rw [k2, b2]⟩
    · rcases h with ⟨-, r3, hr3, h⟩ | ⟨q3, -⟩
      · rw [if_pos ⟨t1, q2⟩]
        have el := s3.2.2.1 t1
        rw [el] at hr3
        have elo : (0 : Int32).toInt = 0 := by decide
        have ehi : (7 : Int32).toInt = 7 := by decide
        rcases qx_find hn s2 t1 hr hr3 with ⟨e1, e2⟩ | ⟨i, i1, i2, i3, i4⟩
        · rw [e2, if_pos (by decide), bnd_l]
          rcases h with ⟨-, f, p, r2, ⟨b1, b2, b3⟩, k1, k2, k3, k4, k5, k6, k7, k8, k9, k10⟩ | ⟨q4, -⟩
          · exact ⟨by rw [k10, b3], by rw [k1, b1], by rw [k2, b2]⟩
          · rw [e1] at q4; exact absurd (by decide) q4
        · have d1 := hr.1
          obtain ⟨n0, n1⟩ := nd_at (ndf := ndf) i2 (by omega)
          rcases h with ⟨q4, -⟩ | ⟨-, r4, hr4, h⟩
          · rw [lt_I, zI] at q4; omega
          · rw [n0] at hr4
            have sl := slot_lt i3
            have ei := nIt (k := slot (ndf (2 * i)) (ndf (2 * i + 1))) (by omega)
            rw [i4]
            rcases h with ⟨q5, r5, hr5, k, s, p, v, l, hx, k1, k2, k3, k4, k5, k6, k7, k8, k9, k10⟩ | ⟨q5, f, p, r2, ⟨b1, b2, b3⟩, k1, k2, k3, k4, k5, k6, k7, k8, k9, k10⟩
            · have es : ndf (2 * i) = 0 := hr4.symm.trans q5
              rw [n1] at hr5
              have := x_next_at hn ht ⟨rfl, s2, s3⟩ hx
              have iv : IV (ndf (2 * i + 1)) 0 7 := by
                rcases i3 with ⟨g1, g2⟩ | ⟨g1, g2⟩ | ⟨g1, g2⟩
                · first | exact g2 | (rw [es] at g1; exact absurd g1 (by decide))
                · first | exact g2 | (rw [es] at g1; exact absurd g1 (by decide))
                · first | exact g2 | (rw [es] at g1; exact absurd g1 (by decide))
              rw [es, slot0] at ei ⊢
              rw [if_neg (by rw [lt_I, ei, elo]; omega), if_neg (by rw [lt_I, ei, ehi]; omega), bnd_r]
              subst k3 k4 k5 k6 k7
              refine ⟨k10, k1, k2, ?_, k9, this⟩
              rw [k8, hr5]
              apply Int32.toInt_inj.mp
              rw [subI (by rw [ei, elo]; omega) (by rw [ei, elo]; omega), ei, elo]
              omega
            · have es : ndf (2 * i) ≠ 0 := fun w => q5 (hr4.trans w)
              have out : nI (slot (ndf (2 * i)) (ndf (2 * i + 1))) < 0 ∨ 7 < nI (slot (ndf (2 * i)) (ndf (2 * i + 1))) := by
                rw [lt_I, lt_I, ei, elo, ehi]
                rcases i3 with ⟨g1, g2⟩ | ⟨g1, g2⟩ | ⟨g1, g2⟩
                · first | exact absurd g1 es | (rw [g1, slot0]; omega)
                · first | exact absurd g1 es | (rw [g1, slot1]; omega)
                · first | exact absurd g1 es | (rw [g1, slot2]; omega)
              by_cases q6 : nI (slot (ndf (2 * i)) (ndf (2 * i + 1))) < 0
              · rw [if_pos q6, bnd_l]; exact ⟨by rw [k10, b3], by rw [k1, b1], by rw [k2, b2]⟩
              · rw [if_neg q6, if_pos (out.resolve_left q6), bnd_l]; exact ⟨by rw [k10, b3], by rw [k1, b1], by rw [k2, b2]⟩
      · exact absurd q1 q3
theorem qx_oldT {F T tp : Nat → Int32} {nmf : Nat → Int64} {ndf : Nat → Int32} {n a ndn fn fp kd sta po va tk ta r fn2 fp2 kd2 sta2 po2 va2 tk2 ta2 : Int32} {le le2 : Int64} (hn : IV n 0 900) (ht : TpR tp T) (hr : NRel F nmf ndf ndn) (hs : XS T n a kd sta po va le) (h : R_x_isOldNameX 1 fn fp n kd sta po va le tk ta tp nmf ndn ndf fn2 fp2 kd2 sta2 po2 va2 le2 tk2 ta2 r) : XV T n a (townP F T n a) fn fp r fn2 fp2 kd2 sta2 po2 va2 le2 tk2 ta2 := by
  obtain ⟨s1, s2, s3⟩ := hs
  subst s1
  simp only [R_x_isOldNameX] at h
  unfold townP oldS
  rcases h with ⟨h1, f, p, r2, ⟨b1, b2, b3⟩, k1, k2, k3, k4, k5, k6, k7, k8, k9, k10⟩ | ⟨h1, r1, hr1, h⟩
  · rw [if_neg (fun q => h1 (s3.1.trans q.1)), bnd_l]
    exact ⟨by rw [k10, b3], by rw [k1, b1], by rw [k2, b2]⟩
  · have t1 := s3.1.symm.trans h1
    rcases qx_reserved hn ht s2 s3 hr1 with ⟨q1, q2⟩ | ⟨q1, q2⟩
    · rcases h with ⟨q3, -⟩ | ⟨-, f, p, r2, ⟨b1, b2, b3⟩, k1, k2, k3, k4, k5, k6, k7, k8, k9, k10⟩
      · rw [q1] at q3; exact absurd q3 one0
      · rw [if_neg (fun q => q.2 q2), bnd_l]
        exact ⟨by rw [k10, b3], by rw [k1, b1], by rw [k2, b2]⟩
    · rcases h with ⟨-, r3, hr3, h⟩ | ⟨q3, -⟩
      · rw [if_pos ⟨t1, q2⟩]
        have el := s3.2.2.1 t1
        rw [el] at hr3
        have elo : (8 : Int32).toInt = 8 := by decide
        have ehi : (11 : Int32).toInt = 11 := by decide
        rcases qx_find hn s2 t1 hr hr3 with ⟨e1, e2⟩ | ⟨i, i1, i2, i3, i4⟩
        · rw [e2, if_pos (by decide), bnd_l]
          rcases h with ⟨-, f, p, r2, ⟨b1, b2, b3⟩, k1, k2, k3, k4, k5, k6, k7, k8, k9, k10⟩ | ⟨q4, -⟩
          · exact ⟨by rw [k10, b3], by rw [k1, b1], by rw [k2, b2]⟩
          · rw [e1] at q4; exact absurd (by decide) q4
        · have d1 := hr.1
          obtain ⟨n0, n1⟩ := nd_at (ndf := ndf) i2 (by omega)
          rcases h with ⟨q4, -⟩ | ⟨-, r4, hr4, h⟩
          · rw [lt_I, zI] at q4; omega
          · rw [n0] at hr4
            have sl := slot_lt i3
            have ei := nIt (k := slot (ndf (2 * i)) (ndf (2 * i + 1))) (by omega)
            rw [i4]
            rcases h with ⟨q5, r5, hr5, k, s, p, v, l, hx, k1, k2, k3, k4, k5, k6, k7, k8, k9, k10⟩ | ⟨q5, f, p, r2, ⟨b1, b2, b3⟩, k1, k2, k3, k4, k5, k6, k7, k8, k9, k10⟩
            · have es : ndf (2 * i) = 1 := hr4.symm.trans q5
              rw [n1] at hr5
              have := x_next_at hn ht ⟨rfl, s2, s3⟩ hx
              have iv : IV (ndf (2 * i + 1)) 0 3 := by
                rcases i3 with ⟨g1, g2⟩ | ⟨g1, g2⟩ | ⟨g1, g2⟩
                · first | exact g2 | (rw [es] at g1; exact absurd g1 (by decide))
                · first | exact g2 | (rw [es] at g1; exact absurd g1 (by decide))
                · first | exact g2 | (rw [es] at g1; exact absurd g1 (by decide))
              rw [es, slot1] at ei ⊢
              rw [if_neg (by rw [lt_I, ei, elo]; omega), if_neg (by rw [lt_I, ei, ehi]; omega), bnd_r]
              subst k3 k4 k5 k6 k7
              refine ⟨k10, k1, k2, ?_, k9, this⟩
              rw [k8, hr5]
              apply Int32.toInt_inj.mp
              rw [subI (by rw [ei, elo]; omega) (by rw [ei, elo]; omega), ei, elo]
              omega
            · have es : ndf (2 * i) ≠ 1 := fun w => q5 (hr4.trans w)
              have out : nI (slot (ndf (2 * i)) (ndf (2 * i + 1))) < 8 ∨ 11 < nI (slot (ndf (2 * i)) (ndf (2 * i + 1))) := by
                rw [lt_I, lt_I, ei, elo, ehi]
                rcases i3 with ⟨g1, g2⟩ | ⟨g1, g2⟩ | ⟨g1, g2⟩
                · first | exact absurd g1 es | (rw [g1, slot0]; omega)
                · first | exact absurd g1 es | (rw [g1, slot1]; omega)
                · first | exact absurd g1 es | (rw [g1, slot2]; omega)
              by_cases q6 : nI (slot (ndf (2 * i)) (ndf (2 * i + 1))) < 8
              · rw [if_pos q6, bnd_l]; exact ⟨by rw [k10, b3], by rw [k1, b1], by rw [k2, b2]⟩
              · rw [if_neg q6, if_pos (out.resolve_left q6), bnd_l]; exact ⟨by rw [k10, b3], by rw [k1, b1], by rw [k2, b2]⟩
      · exact absurd q1 q3

theorem wrL_lt {F T : Nat → Int32} {a s : Nat} : ∀ (k i : Nat), i < 183 → wrL F T a s k i = F i := by
  intro k
  induction k with
  | zero => intro i _; rfl
  | succ k ih => intro i hi; rw [wrL, upd_ne (by omega)]; exact ih i hi
theorem wrL_other {F T : Nat → Int32} {a s j : Nat} (hj : j ≠ s) : ∀ (k i : Nat), k ≤ 8 → i < 8 → wrL F T a s k (183 + 8 * j + i) = F (183 + 8 * j + i) := by
  intro k
  induction k with
  | zero => intro i _ _; rfl
  | succ k ih => intro i hk hi; rw [wrL, upd_ne (by omega)]; exact ih i (by omega) hi
theorem wrL_at {F T : Nat → Int32} {a s : Nat} : ∀ (k i : Nat), i < k → wrL F T a s k (183 + 8 * s + i) = T (a + i) := by
  intro k
  induction k with
  | zero => intro i hi; omega
  | succ k ih =>
    intro i hi
    rw [wrL]
    by_cases q : i = k
    · subst q; rw [upd_at]
    · rw [upd_ne (by omega)]; exact ih i (by omega)
theorem updL_at {f : Nat → Int64} {k : Nat} {x : Int64} : vp_updL f k x k = x := by unfold vp_updL; rw [if_pos rfl]
theorem updL_ne {f : Nat → Int64} {k j : Nat} {x : Int64} (h : j ≠ k) : vp_updL f k x j = f j := by unfold vp_updL; rw [if_neg h]
theorem NRel_new {F T : Nat → Int32} {nmf : Nat → Int64} {ndf : Nat → Int32} {n a ndn so nu : Int32} (hn : IV n 0 900) (ha : IV a 0 900) (h1 : tkF T n a = 1) (hr : NRel F nmf ndf ndn) (hd : ndn.toInt < 16) (hso : SortOk so nu) (hfree : ¬ 0 < (F (167 + slot so nu)).toInt) (hno : findS F T n a < 0) : NRel (wrN F T n a (slot so nu)) (vp_updL nmf ndn.toNatClampNeg (enF T a.toNatClampNeg (lnF T n a))) (upd (upd ndf (ndn.toInt.toNat * 2 + 0) so) (ndn.toInt.toNat * 2 + 1) nu) (ndn + 1) := by
  obtain ⟨d1, d2, d3, d4⟩ := hr
  obtain ⟨q, l, hi, h8, hi1, hl, he⟩ := tk1_inv hn ha h1
  have sl := slot_lt hso
  have e1 := inc1 (u := ndn) (z := ndn + 1) (a := 0) (b := 900) ⟨by omega, by omega⟩ (by omega) (by omega) rfl
  have tn := tn_i d1.1
  have hne : ∀ i : Nat, (i : Int) < ndn.toInt → slot (ndf (2 * i)) (ndf (2 * i + 1)) ≠ slot so nu := by
    intro i hi2 w
    obtain ⟨l', g1, g2, -⟩ := (d2 i hi2).2
    rw [w] at g1
    omega
  have F1 : ∀ j : Nat, j < 16 → j ≠ slot so nu → wrN F T n a (slot so nu) (167 + j) = F (167 + j) := by
    intro j hj hj2
    unfold wrN
    rw [upd_ne (by omega), wrL_lt _ _ (by omega)]
  have F2 : ∀ j k : Nat, j < 16 → j ≠ slot so nu → k < 8 → wrN F T n a (slot so nu) (183 + 8 * j + k) = F (183 + 8 * j + k) := by
    intro j k hj hj2 hk
    unfold wrN
    rw [upd_ne (by omega), wrL_other hj2 _ _ (by omega) hk]
  have F3 : wrN F T n a (slot so nu) (167 + slot so nu) = nI (lnF T n a) := by unfold wrN; rw [upd_at]
  have F4 : ∀ k : Nat, k < lnF T n a → wrN F T n a (slot so nu) (183 + 8 * slot so nu + k) = T (a.toNatClampNeg + k) := by
    intro k hk
    unfold wrN
    rw [upd_ne (by omega), wrL_at _ _ hk]
  have N1 : ∀ i : Nat, (i : Int) < ndn.toInt → upd (upd ndf (ndn.toInt.toNat * 2 + 0) so) (ndn.toInt.toNat * 2 + 1) nu (2 * i) = ndf (2 * i) ∧ upd (upd ndf (ndn.toInt.toNat * 2 + 0) so) (ndn.toInt.toNat * 2 + 1) nu (2 * i + 1) = ndf (2 * i + 1) := by
    intro i hi2
    exact ⟨by rw [upd_ne (by omega), upd_ne (by omega)], by rw [upd_ne (by omega), upd_ne (by omega)]⟩
  have N2 : upd (upd ndf (ndn.toInt.toNat * 2 + 0) so) (ndn.toInt.toNat * 2 + 1) nu (2 * ndn.toInt.toNat) = so ∧ upd (upd ndf (ndn.toInt.toNat * 2 + 0) so) (ndn.toInt.toNat * 2 + 1) nu (2 * ndn.toInt.toNat + 1) = nu := by
    refine ⟨?_, ?_⟩
    · rw [upd_ne (by omega), show 2 * ndn.toInt.toNat = ndn.toInt.toNat * 2 + 0 by omega, upd_at]
    · rw [show 2 * ndn.toInt.toNat + 1 = ndn.toInt.toNat * 2 + 1 by omega, upd_at]
  have hno2 : ∀ i : Nat, (i : Int) < ndn.toInt → nmf i ≠ enF T a.toNatClampNeg (lnF T n a) := by
    intro i hi2 w
    have hN := (nm_iff hn ha h1 (d2 i hi2).2).mp w
    have hu : ∀ j : Nat, j < 16 → NmAt F T n a j → j = slot (ndf (2 * i)) (ndf (2 * i + 1)) := by
      intro j hj hM
      obtain ⟨i', g1, g2⟩ := d3 j hj hM.1
      have r' := (d2 i' g1).2
      rw [g2] at r'
      have := d4 i' i g1 hi2 (((nm_iff hn ha h1 r').mpr hM).trans w.symm)
      subst this
      exact g2.symm
    have sl2 := slot_lt (d2 i hi2).1
    have := findG_some hN hu 16 0 (by first | decide | omega) (by first | decide | omega) (by first | decide | omega)
    unfold findS at hno
    rw [this, lt_I, nIt (by omega), zI] at hno
    omega
  refine ⟨⟨by omega, by omega⟩, ?_, ?_, ?_⟩
  · intro i hi2
    by_cases q2 : (i : Int) < ndn.toInt
    · obtain ⟨g1, g2⟩ := N1 i q2
      rw [g1, g2]
      obtain ⟨k1, l', g3, g4, g5, g6, g7⟩ := d2 i q2
      have hs := slot_lt k1
      refine ⟨k1, l', by rw [F1 _ hs (hne i q2)]; exact g3, g4, g5, fun k hk => by rw [F2 _ _ hs (hne i q2) (by omega)]; exact g6 k hk, ?_⟩
      rw [updL_ne (by omega), g7]
      exact enF_congr _ (fun k hk => (F2 _ _ hs (hne i q2) (by omega)).symm)
    · obtain rfl : i = ndn.toInt.toNat := by omega
      rw [N2.1, N2.2]
      refine ⟨hso, lnF T n a, by rw [F3, nIt (by omega)], by omega, by omega, fun k hk => by rw [F4 k hk]; exact (word_ch hn ha h1 hk).2, ?_⟩
      rw [show ndn.toInt.toNat = ndn.toNatClampNeg by omega, updL_at]
      exact enF_congr _ (fun k hk => (F4 k hk).symm)
  · intro j hj hp
    by_cases q2 : j = slot so nu
    · exact ⟨ndn.toInt.toNat, by omega, by rw [N2.1, N2.2, q2]⟩
    · rw [F1 j hj q2] at hp
      obtain ⟨i, g1, g2⟩ := d3 j hj hp
      exact ⟨i, by omega, by rw [(N1 i g1).1, (N1 i g1).2]; exact g2⟩
  · intro i i' hi2 hi3 w
    by_cases q2 : (i : Int) < ndn.toInt
    · rw [updL_ne (by omega)] at w
      by_cases q3 : (i' : Int) < ndn.toInt
      · rw [updL_ne (by omega)] at w; exact d4 i i' q2 q3 w
      · obtain rfl : i' = ndn.toNatClampNeg := by omega
        rw [updL_at] at w; exact absurd w (hno2 i q2)
    · obtain rfl : i = ndn.toNatClampNeg := by omega
      rw [updL_at] at w
      by_cases q3 : (i' : Int) < ndn.toInt
      · rw [updL_ne (by omega)] at w; exact absurd w.symm (hno2 i' q3)
      · omega
/-- what isNewName leaves -/
def XN (T : Nat → Int32) (n : Int32) (σ : Rs ((Nat → Int32) × Int32)) (fn fp r fn2 fp2 kd2 sta2 po2 va2 : Int32) (le2 : Int64) (nmg : Nat → Int64) (ndg : Nat → Int32) (ndk ndn : Int32) : Prop := match σ with
  | .inl e => r = 0 ∧ fn2 = e.1 ∧ fp2 = e.2
  | .inr v => r = 1 ∧ fn2 = fn ∧ fp2 = fp ∧ NRel v.1 nmg ndg ndk ∧ ndk = ndn + 1 ∧ XS T n v.2 kd2 sta2 po2 va2 le2
theorem qx_new {F T tp : Nat → Int32} {nmf nmg : Nat → Int64} {ndf ndg : Nat → Int32} {n a ndn ndk so nu fn fp kd sta po va r fn2 fp2 kd2 sta2 po2 va2 : Int32} {le le2 : Int64} (hn : IV n 0 900) (ht : TpR tp T) (hr : NRel F nmf ndf ndn) (hd : ndn.toInt < 16) (hso : SortOk so nu) (hfree : ¬ 0 < (F (167 + slot so nu)).toInt) (hs : XS T n a kd sta po va le) (h : R_x_isNewNameX so nu fn fp n kd sta po va le tp nmf ndn ndf fn2 fp2 kd2 sta2 po2 va2 le2 nmg ndg ndk r) : XN T n (newS F T n (slot so nu) a) fn fp r fn2 fp2 kd2 sta2 po2 va2 le2 nmg ndg ndk ndn := by
  obtain ⟨s1, s2, s3⟩ := hs
  subst s1
  have d1 := hr.1
  simp only [R_x_isNewNameX] at h
  unfold newS
  rcases h with ⟨h1, f, p, r2, ⟨b1, b2, b3⟩, k1, k2, k3, k4, k5, k6, k7, k8, k9, k10, k11⟩ | ⟨h1, r1, hr1, h⟩
  · rw [if_neg (fun q => h1 (s3.1.trans q.1))]
    exact ⟨by rw [k11, b3], by rw [k1, b1], by rw [k2, b2]⟩
  · have t1 := s3.1.symm.trans h1
    rcases qx_reserved hn ht s2 s3 hr1 with ⟨q1, q2⟩ | ⟨q1, q2⟩
    · rcases h with ⟨q3, -⟩ | ⟨-, f, p, r2, ⟨b1, b2, b3⟩, k1, k2, k3, k4, k5, k6, k7, k8, k9, k10, k11⟩
      · rw [q1] at q3; exact absurd q3 one0
      · rw [if_neg (fun q => q.2 q2)]
        exact ⟨by rw [k11, b3], by rw [k1, b1], by rw [k2, b2]⟩
    · rcases h with ⟨-, r3, hr3, h⟩ | ⟨q3, -⟩
      · rw [if_pos ⟨t1, q2⟩]
        have el := s3.2.2.1 t1
        rw [el] at hr3
        rcases qx_find hn s2 t1 hr hr3 with ⟨e1, e2⟩ | ⟨i, i1, i2, i3, i4⟩
        · have hneg : findS F T n sta < 0 := by rw [e2]; decide
          rw [if_pos hneg]
          rcases h with ⟨-, h⟩ | ⟨q4, -⟩
          · have e16 : (16 : Int32).toInt = 16 := by decide
            rcases h with ⟨q5, -⟩ | ⟨-, ⟨q5, -⟩ | ⟨-, g, k, ha, kk, ss, pp, vv, ll, hx, k1, k2, k3, k4, k5, k6, k7, k8, k9, k10, k11⟩⟩
            · rw [lt_I, zI] at q5; omega
            · rw [le_I, e16] at q5; omega
            · obtain ⟨g1, g2⟩ := qt_add16_2 ⟨by omega, by omega⟩ ha
              have hx2 := x_next_at hn ht ⟨rfl, s2, s3⟩ hx
              have hN := NRel_new hn s2 t1 hr hd hso hfree hneg
              subst k3 k4 k5 k6 k7
              refine ⟨k11, k1, k2, ?_, by rw [k10, g2], hx2⟩
              rw [k8, k9, k10, g1, g2, el]
              exact hN
          · rw [e1] at q4; exact absurd (by decide) q4
        · have sl := slot_lt i3
          have hpos : ¬ findS F T n sta < 0 := by rw [i4, lt_I, nIt (by omega), zI]; omega
          rw [if_neg hpos]
          rcases h with ⟨q4, -⟩ | ⟨-, f, p, r2, ⟨b1, b2, b3⟩, k1, k2, k3, k4, k5, k6, k7, k8, k9, k10, k11⟩
          · rw [lt_I, zI] at q4; omega
          · exact ⟨by rw [k11, b3], by rw [k1, b1], by rw [k2, b2]⟩
      · exact absurd q1 q3
