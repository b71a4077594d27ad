set_option maxRecDepth 100000
set_option maxHeartbeats 4000000
def bcap (c x : Int32) : Int32 := if c ≤ x then 0 else 1
def bpos (x : Int32) : Int32 := if x ≤ 0 then 0 else 1
theorem bcap_of {c x b : Int32} (h : (c ≤ x ∧ b = 0) ∨ (¬ c ≤ x ∧ b = 1)) : b = bcap c x := by
  unfold bcap
  rcases h with ⟨h1, h⟩ | ⟨h1, h⟩
  · rw [if_pos h1, h]
  · rw [if_neg h1, h]
theorem bpos_of {x b : Int32} (h : (x ≤ 0 ∧ b = 0) ∨ (¬ x ≤ 0 ∧ b = 1)) : b = bpos x := by
  unfold bpos
  rcases h with ⟨h1, h⟩ | ⟨h1, h⟩
  · rw [if_pos h1, h]
  · rw [if_neg h1, h]
def FIv (F : Nat → Int32) : Prop := IV (F 6) 0 8 ∧ IV (F 7) 0 4 ∧ IV (F 8) 0 12 ∧ IV (F 9) 0 8 ∧ IV (F 10) 0 6 ∧ IV (F 11) 0 4 ∧ IV (F 13) 0 6 ∧ IV (F 14) 0 6
theorem opn_inr {F T : Nat → Int32} {n c x a b : Int32} (h : opnS F T n (bcap c x) a = .inr b) : x.toInt < c.toInt ∧ F 15 ≠ 0 ∧ b = nx T n a := by
  unfold opnS bcap at h
  by_cases q : c ≤ x
  · rw [if_pos q, if_pos rfl] at h; cases h
  · rw [if_neg q, if_neg one0] at h
    rw [le_I] at q
    by_cases q2 : F 15 = 0
    · rw [if_pos q2] at h; cases h
    · rw [if_neg q2] at h
      exact ⟨by omega, q2, (Sum.inr.inj h).symm⟩
theorem st_reelLine {F T L F2 L2 : Nat → Int32} {n a en fd ft ns pl tk wh at2 en2 fd2 ft2 ns2 pl2 tk2 wh2 : Int32} (h0 : fd = 1) (h : R_m_reelLineX n a en tk wh ns ft pl fd T L F at2 en2 fd2 ft2 F2 L2 ns2 pl2 tk2 wh2) : fd2 = 1 ∧ ft2 = ft ∧ pl2 = pl := by
  unfold R_m_reelLineX at h
  rcases h with ⟨q, -⟩ | h
  · rw [h0] at q; exact absurd q one0
  · refine exA10 h ?_
    clear h
    intro zn0 k1 k2 k3 k4 k5 k6 k7 k8 k9 k10
    clear zn0
    exact ⟨by rw [k3, h0], k4, k8⟩
theorem st_townLine {F T L F2 L2 : Nat → Int32} {n a en fd ft ns pl tk wh at2 en2 fd2 ft2 ns2 pl2 tk2 wh2 : Int32} (h0 : fd = 1) (h : R_m_townLineX n a en tk wh ns ft pl fd T L F at2 en2 fd2 ft2 F2 L2 ns2 pl2 tk2 wh2) : fd2 = 1 ∧ ft2 = ft ∧ pl2 = pl := by
  unfold R_m_townLineX at h
  rcases h with ⟨q, -⟩ | h
  · rw [h0] at q; exact absurd q one0
  · refine exA10 h ?_
    clear h
    intro zn0 k1 k2 k3 k4 k5 k6 k7 k8 k9 k10
    clear zn0
    exact ⟨by rw [k3, h0], k4, k8⟩
theorem st_markLine {F T L F2 L2 : Nat → Int32} {n a en fd ft ns pl tk wh at2 en2 fd2 ft2 ns2 pl2 tk2 wh2 : Int32} (h0 : fd = 1) (h : R_m_markLineX n a en tk wh ns ft pl fd T L F at2 en2 fd2 ft2 F2 L2 ns2 pl2 tk2 wh2) : fd2 = 1 ∧ ft2 = ft ∧ pl2 = pl := by
  unfold R_m_markLineX at h
  rcases h with ⟨q, -⟩ | h
  · rw [h0] at q; exact absurd q one0
  · refine exA10 h ?_
    clear h
    intro zn0 k1 k2 k3 k4 k5 k6 k7 k8 k9 k10
    clear zn0
    exact ⟨by rw [k3, h0], k4, k8⟩
theorem st_joinLine {F T L F2 L2 : Nat → Int32} {n a en fd ft ns pl tk wh at2 en2 fd2 ft2 ns2 pl2 tk2 wh2 : Int32} (h0 : fd = 1) (h : R_m_joinLineX n a en tk wh ns ft pl fd T L F at2 en2 fd2 ft2 F2 L2 ns2 pl2 tk2 wh2) : fd2 = 1 ∧ ft2 = ft ∧ pl2 = pl := by
  unfold R_m_joinLineX at h
  rcases h with ⟨q, -⟩ | h
  · rw [h0] at q; exact absurd q one0
  · refine exA10 h ?_
    clear h
    intro zn0 k1 k2 k3 k4 k5 k6 k7 k8 k9 k10
    clear zn0
    exact ⟨by rw [k3, h0], k4, k8⟩
theorem st_weakLine {F T L F2 L2 : Nat → Int32} {n a en fd ft ns pl tk wh at2 en2 fd2 ft2 ns2 pl2 tk2 wh2 : Int32} (h0 : fd = 1) (h : R_m_weakLineX n a en tk wh ns ft pl fd T L F at2 en2 fd2 ft2 F2 L2 ns2 pl2 tk2 wh2) : fd2 = 1 ∧ ft2 = ft ∧ pl2 = pl := by
  unfold R_m_weakLineX at h
  rcases h with ⟨q, -⟩ | h
  · rw [h0] at q; exact absurd q one0
  · refine exA10 h ?_
    clear h
    intro zn0 k1 k2 k3 k4 k5 k6 k7 k8 k9 k10
    clear zn0
    exact ⟨by rw [k3, h0], k4, k8⟩
theorem st_manLine {F T L F2 L2 : Nat → Int32} {n a en fd ft ns pl tk wh at2 en2 fd2 ft2 ns2 pl2 tk2 wh2 : Int32} (h0 : fd = 1) (h : R_m_manLineX n a en tk wh ns ft pl fd T L F at2 en2 fd2 ft2 F2 L2 ns2 pl2 tk2 wh2) : fd2 = 1 ∧ ft2 = ft ∧ pl2 = pl := by
  unfold R_m_manLineX at h
  rcases h with ⟨q, -⟩ | h
  · rw [h0] at q; exact absurd q one0
  · refine exA10 h ?_
    clear h
    intro zn0 k1 k2 k3 k4 k5 k6 k7 k8 k9 k10
    clear zn0
    exact ⟨by rw [k3, h0], k4, k8⟩
theorem st_showsLine {F T L F2 L2 : Nat → Int32} {n a en fd ft ns pl tk wh at2 en2 fd2 ft2 ns2 pl2 tk2 wh2 : Int32} (h0 : fd = 1) (h : R_m_showsLineX n a en tk wh ns ft pl fd T L F at2 en2 fd2 ft2 F2 L2 ns2 pl2 tk2 wh2) : fd2 = 1 ∧ ft2 = ft ∧ pl2 = pl := by
  unfold R_m_showsLineX at h
  rcases h with ⟨q, -⟩ | h
  · rw [h0] at q; exact absurd q one0
  · refine exA10 h ?_
    clear h
    intro zn0 k1 k2 k3 k4 k5 k6 k7 k8 k9 k10
    clear zn0
    exact ⟨by rw [k3, h0], k4, k8⟩
theorem st_boysLine {F T L F2 L2 : Nat → Int32} {n a en fd ft ns pl tk wh at2 en2 fd2 ft2 ns2 pl2 tk2 wh2 : Int32} (h0 : fd = 1) (h : R_m_boysLineX n a en tk wh ns ft pl fd T L F at2 en2 fd2 ft2 F2 L2 ns2 pl2 tk2 wh2) : fd2 = 1 ∧ ft2 = ft ∧ pl2 = pl := by
  unfold R_m_boysLineX at h
  rcases h with ⟨q, -⟩ | h
  · rw [h0] at q; exact absurd q one0
  · refine exA10 h ?_
    clear h
    intro zn0 k1 k2 k3 k4 k5 k6 k7 k8 k9 k10
    clear zn0
    exact ⟨by rw [k3, h0], k4, k8⟩
theorem st_scratchLine {F T L F2 L2 : Nat → Int32} {n a en fd ft ns pl tk wh at2 en2 fd2 ft2 ns2 pl2 tk2 wh2 : Int32} (h0 : fd = 1) (h : R_m_scratchLineX n a en tk wh ns ft pl fd T L F at2 en2 fd2 ft2 F2 L2 ns2 pl2 tk2 wh2) : fd2 = 1 ∧ ft2 = ft ∧ pl2 = pl := by
  unfold R_m_scratchLineX at h
  rcases h with ⟨q, -⟩ | h
  · rw [h0] at q; exact absurd q one0
  · refine exA10 h ?_
    clear h
    intro zn0 k1 k2 k3 k4 k5 k6 k7 k8 k9 k10
    clear zn0
    exact ⟨by rw [k3, h0], k4, k8⟩
noncomputable def lineS (F T : Nat → Int32) (n a : Int32) : Rs ((Nat → Int32) × Int32) := @ite _ (IsW T n a "house") (Classical.propDecidable _) (houseS F T n a) (@ite _ (IsW T n a "reel") (Classical.propDecidable _) (bnd (opnS F T n (bcap 8 (F 6)) a) (reelS F T n)) (@ite _ (IsW T n a "town") (Classical.propDecidable _) (bnd (opnS F T n (bcap 4 (F 7)) a) (townS F T n)) (@ite _ (IsW T n a "mark") (Classical.propDecidable _) (bnd (opnS F T n (bcap 12 (F 8)) a) (markS F T n)) (@ite _ (IsW T n a "join") (Classical.propDecidable _) (bnd (opnS F T n (bcap 8 (F 9)) a) (joinS F T n)) (@ite _ (IsW T n a "weak") (Classical.propDecidable _) (bnd (opnS F T n (bcap 6 (F 10)) a) (weakS F T n)) (@ite _ (IsW T n a "man") (Classical.propDecidable _) (bnd (opnS F T n (bcap 4 (F 11)) a) (manS F T n)) (@ite _ (IsW T n a "shows") (Classical.propDecidable _) (bnd (onceS F T n (bpos (F 12)) a) (showS F T n)) (@ite _ (IsW T n a "boys") (Classical.propDecidable _) (bnd (onceS F T n (bpos (F 134)) a) (boysS F T n)) (@ite _ (IsW T n a "seen") (Classical.propDecidable _) (seenS F T n a) (@ite _ (IsW T n a "scratch") (Classical.propDecidable _) (bnd (opnS F T n (bcap 6 (F 14)) a) (scratchS F T n)) (.inl (1, a))))))))))))
theorem qm_readLine {F T L F2 L2 : Nat → Int32} {n a en fd ft ns pl tk wh at2 en2 fd2 ft2 ns2 pl2 tk2 wh2 : Int32} (hn : IV n 0 900) (hF : FIv F) (hm : MS T n (.inr a) a en fd ft L ns pl tk wh) (h : R_m_readLineX n a en tk wh ns ft pl fd T L F at2 en2 fd2 ft2 F2 L2 ns2 pl2 tk2 wh2) : MF T n F (lineS F T n a) at2 en2 fd2 ft2 F2 L2 ns2 pl2 tk2 wh2 := by
  obtain ⟨s1, s2, s3, s4, s5⟩ := hm
  unfold R_m_readLineX at h
  obtain ⟨i6, i7, i8, i9, i10, i11, i13, i14⟩ := hF
  have sm : MS T n (.inr a) a en fd ft L ns pl tk wh := ⟨s1, s2, rfl, s4, s5⟩
  obtain ⟨r0, hr0, h⟩ := h
  rw [s1] at hr0
  unfold lineS
  rcases m_is_spec wok_house s5 hr0 with ⟨q, c⟩ | ⟨q, c⟩
  · rw [if_pos c]
    rcases h with ⟨q2, -⟩ | ⟨-, h⟩
    · rw [q] at q2; exact absurd q2 one0
    refine exE10 h ?_
    clear h
    intro A E f u G M m p t w hl h
    refine exA9 h ?_
    clear h
    intro k1 k2 k3 k4 k5 k6 k7 k8 k9 k10
    subst k1 k2 k3 k4 k5 k6 k7 k8 k9 k10
    exact qm_houseLine hn sm hl
  rw [if_neg c]
  rcases h with ⟨-, h⟩ | ⟨q2, -⟩
  case inr => exact absurd q q2
  clear hr0 q c
  refine exE1 h ?_
  clear h
  intro z hz h
  refine exE1 h ?_
  clear h
  intro b hb h
  refine exE10 h ?_
  clear h
  intro a1 e1 f1 u1 L1 n1 p1 t1 w1 r1 ho h
  rw [tc6] at hz
  rw [hz] at hb
  have hb := bcap_of hb
  subst hb
  rcases qm_opens hn wok_reel sm ho with ⟨c, q, ms⟩ | ⟨c, q, j1, j2, j3, j4, j5, j6, j7, j8, j9⟩
  · rw [if_pos c]
    rcases h with ⟨q2, -⟩ | ⟨-, h⟩
    · rw [q] at q2; exact absurd q2 one0
    refine exE10 h ?_
    clear h
    intro A E f u G M m p t w hl h
    refine exA9 h ?_
    clear h
    intro k1 k2 k3 k4 k5 k6 k7 k8 k9 k10
    subst k1 k2 k3 k4 k5 k6 k7 k8 k9 k10
    cases ho2 : opnS F T n (bcap 8 (F 6)) a with
    | inl e =>
      rw [ho2] at ms
      refine exA2 (MS_l ms) ?_
      intro y1 y2 y3
      obtain ⟨x1, x2, x3⟩ := st_reelLine y1 hl
      rw [bnd_l]
      exact ⟨x1, by rw [x2, y2], by rw [x3, y3]⟩
    | inr b =>
      rw [ho2] at ms
      refine exA4 (MS_r ms) ?_
      intro y1 y2 y3 y4 y5
      subst y3
      rw [bnd_r]
      exact qm_reelLine hn (show IV (F 6) 0 7 from ⟨i6.1, by have e9 : (8 : Int32).toInt = 8 := (by decide); have := (opn_inr ho2).1; omega⟩) ⟨y1, y2, rfl, y4, y5⟩ hl
  rw [if_neg c]
  rcases h with ⟨-, h⟩ | ⟨q2, -⟩
  case inr => exact absurd q q2
  replace j1 := j1.symm
  replace j2 := j2.symm
  replace j3 := j3.symm
  replace j4 := j4.symm
  replace j5 := j5.symm
  replace j6 := j6.symm
  replace j7 := j7.symm
  replace j8 := j8.symm
  replace j9 := j9.symm
  subst j1 j2 j3 j4 j5 j6 j7 j8 j9
  clear ho q c hz
  refine exE1 h ?_
  clear h
  intro z hz h
  refine exE1 h ?_
  clear h
  intro b hb h
  refine exE10 h ?_
  clear h
  intro a1 e1 f1 u1 L1 n1 p1 t1 w1 r1 ho h
  rw [tc7] at hz
  rw [hz] at hb
  have hb := bcap_of hb
  subst hb
  rcases qm_opens hn wok_town sm ho with ⟨c, q, ms⟩ | ⟨c, q, j1, j2, j3, j4, j5, j6, j7, j8, j9⟩
  · rw [if_pos c]
    rcases h with ⟨q2, -⟩ | ⟨-, h⟩
    · rw [q] at q2; exact absurd q2 one0
    refine exE10 h ?_
    clear h
    intro A E f u G M m p t w hl h
    refine exA9 h ?_
    clear h
    intro k1 k2 k3 k4 k5 k6 k7 k8 k9 k10
    subst k1 k2 k3 k4 k5 k6 k7 k8 k9 k10
    cases ho2 : opnS F T n (bcap 4 (F 7)) a with
    | inl e =>
      rw [ho2] at ms
      refine exA2 (MS_l ms) ?_
      intro y1 y2 y3
      obtain ⟨x1, x2, x3⟩ := st_townLine y1 hl
      rw [bnd_l]
      exact ⟨x1, by rw [x2, y2], by rw [x3, y3]⟩
    | inr b =>
      rw [ho2] at ms
      refine exA4 (MS_r ms) ?_
      intro y1 y2 y3 y4 y5
      subst y3
      rw [bnd_r]
      exact qm_townLine hn (show IV (F 7) 0 3 from ⟨i7.1, by have e9 : (4 : Int32).toInt = 4 := (by decide); have := (opn_inr ho2).1; omega⟩) ⟨y1, y2, rfl, y4, y5⟩ hl
  rw [if_neg c]
  rcases h with ⟨-, h⟩ | ⟨q2, -⟩
  case inr => exact absurd q q2
  replace j1 := j1.symm
  replace j2 := j2.symm
  replace j3 := j3.symm
  replace j4 := j4.symm
  replace j5 := j5.symm
  replace j6 := j6.symm
  replace j7 := j7.symm
  replace j8 := j8.symm
  replace j9 := j9.symm
  subst j1 j2 j3 j4 j5 j6 j7 j8 j9
  clear ho q c hz
  refine exE1 h ?_
  clear h
  intro z hz h
  refine exE1 h ?_
  clear h
  intro b hb h
  refine exE10 h ?_
  clear h
  intro a1 e1 f1 u1 L1 n1 p1 t1 w1 r1 ho h
  rw [tc8] at hz
  rw [hz] at hb
  have hb := bcap_of hb
  subst hb
  rcases qm_opens hn wok_mark sm ho with ⟨c, q, ms⟩ | ⟨c, q, j1, j2, j3, j4, j5, j6, j7, j8, j9⟩
  · rw [if_pos c]
    rcases h with ⟨q2, -⟩ | ⟨-, h⟩
    · rw [q] at q2; exact absurd q2 one0
    refine exE10 h ?_
    clear h
    intro A E f u G M m p t w hl h
    refine exA9 h ?_
    clear h
    intro k1 k2 k3 k4 k5 k6 k7 k8 k9 k10
    subst k1 k2 k3 k4 k5 k6 k7 k8 k9 k10
    cases ho2 : opnS F T n (bcap 12 (F 8)) a with
    | inl e =>
      rw [ho2] at ms
      refine exA2 (MS_l ms) ?_
      intro y1 y2 y3
      obtain ⟨x1, x2, x3⟩ := st_markLine y1 hl
      rw [bnd_l]
      exact ⟨x1, by rw [x2, y2], by rw [x3, y3]⟩
    | inr b =>
      rw [ho2] at ms
      refine exA4 (MS_r ms) ?_
      intro y1 y2 y3 y4 y5
      subst y3
      rw [bnd_r]
      exact qm_markLine hn (show IV (F 8) 0 11 from ⟨i8.1, by have e9 : (12 : Int32).toInt = 12 := (by decide); have := (opn_inr ho2).1; omega⟩) ⟨y1, y2, rfl, y4, y5⟩ hl
  rw [if_neg c]
  rcases h with ⟨-, h⟩ | ⟨q2, -⟩
  case inr => exact absurd q q2
  replace j1 := j1.symm
  replace j2 := j2.symm
  replace j3 := j3.symm
  replace j4 := j4.symm
  replace j5 := j5.symm
  replace j6 := j6.symm
  replace j7 := j7.symm
  replace j8 := j8.symm
  replace j9 := j9.symm
  subst j1 j2 j3 j4 j5 j6 j7 j8 j9
  clear ho q c hz
  refine exE1 h ?_
  clear h
  intro z hz h
  refine exE1 h ?_
  clear h
  intro b hb h
  refine exE10 h ?_
  clear h
  intro a1 e1 f1 u1 L1 n1 p1 t1 w1 r1 ho h
  rw [tc9] at hz
  rw [hz] at hb
  have hb := bcap_of hb
  subst hb
  rcases qm_opens hn wok_join sm ho with ⟨c, q, ms⟩ | ⟨c, q, j1, j2, j3, j4, j5, j6, j7, j8, j9⟩
  · rw [if_pos c]
    rcases h with ⟨q2, -⟩ | ⟨-, h⟩
    · rw [q] at q2; exact absurd q2 one0
    refine exE10 h ?_
    clear h
    intro A E f u G M m p t w hl h
    refine exA9 h ?_
    clear h
    intro k1 k2 k3 k4 k5 k6 k7 k8 k9 k10
    subst k1 k2 k3 k4 k5 k6 k7 k8 k9 k10
    cases ho2 : opnS F T n (bcap 8 (F 9)) a with
    | inl e =>
      rw [ho2] at ms
      refine exA2 (MS_l ms) ?_
      intro y1 y2 y3
      obtain ⟨x1, x2, x3⟩ := st_joinLine y1 hl
      rw [bnd_l]
      exact ⟨x1, by rw [x2, y2], by rw [x3, y3]⟩
    | inr b =>
      rw [ho2] at ms
      refine exA4 (MS_r ms) ?_
      intro y1 y2 y3 y4 y5
      subst y3
      rw [bnd_r]
      exact qm_joinLine hn (show IV (F 9) 0 7 from ⟨i9.1, by have e9 : (8 : Int32).toInt = 8 := (by decide); have := (opn_inr ho2).1; omega⟩) ⟨y1, y2, rfl, y4, y5⟩ hl
  rw [if_neg c]
  rcases h with ⟨-, h⟩ | ⟨q2, -⟩
  case inr => exact absurd q q2
  replace j1 := j1.symm
  replace j2 := j2.symm
  replace j3 := j3.symm
  replace j4 := j4.symm
  replace j5 := j5.symm
  replace j6 := j6.symm
  replace j7 := j7.symm
  replace j8 := j8.symm
  replace j9 := j9.symm
  subst j1 j2 j3 j4 j5 j6 j7 j8 j9
  clear ho q c hz
  refine exE1 h ?_
  clear h
  intro z hz h
  refine exE1 h ?_
  clear h
  intro b hb h
  refine exE10 h ?_
  clear h
  intro a1 e1 f1 u1 L1 n1 p1 t1 w1 r1 ho h
  rw [tc10] at hz
  rw [hz] at hb
  have hb := bcap_of hb
  subst hb
  rcases qm_opens hn wok_weak sm ho with ⟨c, q, ms⟩ | ⟨c, q, j1, j2, j3, j4, j5, j6, j7, j8, j9⟩
  · rw [if_pos c]
    rcases h with ⟨q2, -⟩ | ⟨-, h⟩
    · rw [q] at q2; exact absurd q2 one0
    refine exE10 h ?_
    clear h
    intro A E f u G M m p t w hl h
    refine exA9 h ?_
    clear h
    intro k1 k2 k3 k4 k5 k6 k7 k8 k9 k10
    subst k1 k2 k3 k4 k5 k6 k7 k8 k9 k10
    cases ho2 : opnS F T n (bcap 6 (F 10)) a with
    | inl e =>
      rw [ho2] at ms
      refine exA2 (MS_l ms) ?_
      intro y1 y2 y3
      obtain ⟨x1, x2, x3⟩ := st_weakLine y1 hl
      rw [bnd_l]
      exact ⟨x1, by rw [x2, y2], by rw [x3, y3]⟩
    | inr b =>
      rw [ho2] at ms
      refine exA4 (MS_r ms) ?_
      intro y1 y2 y3 y4 y5
      subst y3
      rw [bnd_r]
      exact qm_weakLine hn (show IV (F 10) 0 5 from ⟨i10.1, by have e9 : (6 : Int32).toInt = 6 := (by decide); have := (opn_inr ho2).1; omega⟩) ⟨y1, y2, rfl, y4, y5⟩ hl
  rw [if_neg c]
  rcases h with ⟨-, h⟩ | ⟨q2, -⟩
  case inr => exact absurd q q2
  replace j1 := j1.symm
  replace j2 := j2.symm
  replace j3 := j3.symm
  replace j4 := j4.symm
  replace j5 := j5.symm
  replace j6 := j6.symm
  replace j7 := j7.symm
  replace j8 := j8.symm
  replace j9 := j9.symm
  subst j1 j2 j3 j4 j5 j6 j7 j8 j9
  clear ho q c hz
  refine exE1 h ?_
  clear h
  intro z hz h
  refine exE1 h ?_
  clear h
  intro b hb h
  refine exE10 h ?_
  clear h
  intro a1 e1 f1 u1 L1 n1 p1 t1 w1 r1 ho h
  rw [tc11] at hz
  rw [hz] at hb
  have hb := bcap_of hb
  subst hb
  rcases qm_opens hn wok_man sm ho with ⟨c, q, ms⟩ | ⟨c, q, j1, j2, j3, j4, j5, j6, j7, j8, j9⟩
  · rw [if_pos c]
    rcases h with ⟨q2, -⟩ | ⟨-, h⟩
    · rw [q] at q2; exact absurd q2 one0
    refine exE10 h ?_
    clear h
    intro A E f u G M m p t w hl h
    refine exA9 h ?_
    clear h
    intro k1 k2 k3 k4 k5 k6 k7 k8 k9 k10
    subst k1 k2 k3 k4 k5 k6 k7 k8 k9 k10
    cases ho2 : opnS F T n (bcap 4 (F 11)) a with
    | inl e =>
      rw [ho2] at ms
      refine exA2 (MS_l ms) ?_
      intro y1 y2 y3
      obtain ⟨x1, x2, x3⟩ := st_manLine y1 hl
      rw [bnd_l]
      exact ⟨x1, by rw [x2, y2], by rw [x3, y3]⟩
    | inr b =>
      rw [ho2] at ms
      refine exA4 (MS_r ms) ?_
      intro y1 y2 y3 y4 y5
      subst y3
      rw [bnd_r]
      exact qm_manLine hn (show IV (F 11) 0 3 from ⟨i11.1, by have e9 : (4 : Int32).toInt = 4 := (by decide); have := (opn_inr ho2).1; omega⟩) ⟨y1, y2, rfl, y4, y5⟩ hl
  rw [if_neg c]
  rcases h with ⟨-, h⟩ | ⟨q2, -⟩
  case inr => exact absurd q q2
  replace j1 := j1.symm
  replace j2 := j2.symm
  replace j3 := j3.symm
  replace j4 := j4.symm
  replace j5 := j5.symm
  replace j6 := j6.symm
  replace j7 := j7.symm
  replace j8 := j8.symm
  replace j9 := j9.symm
  subst j1 j2 j3 j4 j5 j6 j7 j8 j9
  clear ho q c hz
  refine exE1 h ?_
  clear h
  intro z hz h
  refine exE1 h ?_
  clear h
  intro b hb h
  refine exE10 h ?_
  clear h
  intro a1 e1 f1 u1 L1 n1 p1 t1 w1 r1 ho h
  rw [tc12] at hz
  rw [hz] at hb
  have hb := bpos_of hb
  subst hb
  rcases qm_opensOnce hn wok_shows sm ho with ⟨c, q, ms⟩ | ⟨c, q, j1, j2, j3, j4, j5, j6, j7, j8, j9⟩
  · rw [if_pos c]
    rcases h with ⟨q2, -⟩ | ⟨-, h⟩
    · rw [q] at q2; exact absurd q2 one0
    refine exE10 h ?_
    clear h
    intro A E f u G M m p t w hl h
    refine exA9 h ?_
    clear h
    intro k1 k2 k3 k4 k5 k6 k7 k8 k9 k10
    subst k1 k2 k3 k4 k5 k6 k7 k8 k9 k10
    cases ho2 : onceS F T n (bpos (F 12)) a with
    | inl e =>
      rw [ho2] at ms
      refine exA2 (MS_l ms) ?_
      intro y1 y2 y3
      obtain ⟨x1, x2, x3⟩ := st_showsLine y1 hl
      rw [bnd_l]
      exact ⟨x1, by rw [x2, y2], by rw [x3, y3]⟩
    | inr b =>
      rw [ho2] at ms
      refine exA4 (MS_r ms) ?_
      intro y1 y2 y3 y4 y5
      subst y3
      rw [bnd_r]
      exact qm_showsLine hn ⟨y1, y2, rfl, y4, y5⟩ hl
  rw [if_neg c]
  rcases h with ⟨-, h⟩ | ⟨q2, -⟩
  case inr => exact absurd q q2
  replace j1 := j1.symm
  replace j2 := j2.symm
  replace j3 := j3.symm
  replace j4 := j4.symm
  replace j5 := j5.symm
  replace j6 := j6.symm
  replace j7 := j7.symm
  replace j8 := j8.symm
  replace j9 := j9.symm
  subst j1 j2 j3 j4 j5 j6 j7 j8 j9
  clear ho q c hz
  refine exE1 h ?_
  clear h
  intro z hz h
  refine exE1 h ?_
  clear h
  intro b hb h
  refine exE10 h ?_
  clear h
  intro a1 e1 f1 u1 L1 n1 p1 t1 w1 r1 ho h
  rw [tc134] at hz
  rw [hz] at hb
  have hb := bpos_of hb
  subst hb
  rcases qm_opensOnce hn wok_boys sm ho with ⟨c, q, ms⟩ | ⟨c, q, j1, j2, j3, j4, j5, j6, j7, j8, j9⟩
  · rw [if_pos c]
    rcases h with ⟨q2, -⟩ | ⟨-, h⟩
    · rw [q] at q2; exact absurd q2 one0
    refine exE10 h ?_
    clear h
    intro A E f u G M m p t w hl h
    refine exA9 h ?_
    clear h
    intro k1 k2 k3 k4 k5 k6 k7 k8 k9 k10
    subst k1 k2 k3 k4 k5 k6 k7 k8 k9 k10
    cases ho2 : onceS F T n (bpos (F 134)) a with
    | inl e =>
      rw [ho2] at ms
      refine exA2 (MS_l ms) ?_
      intro y1 y2 y3
      obtain ⟨x1, x2, x3⟩ := st_boysLine y1 hl
      rw [bnd_l]
      exact ⟨x1, by rw [x2, y2], by rw [x3, y3]⟩
    | inr b =>
      rw [ho2] at ms
      refine exA4 (MS_r ms) ?_
      intro y1 y2 y3 y4 y5
      subst y3
      rw [bnd_r]
      exact qm_boysLine hn ⟨y1, y2, rfl, y4, y5⟩ hl
  rw [if_neg c]
  rcases h with ⟨-, h⟩ | ⟨q2, -⟩
  case inr => exact absurd q q2
  replace j1 := j1.symm
  replace j2 := j2.symm
  replace j3 := j3.symm
  replace j4 := j4.symm
  replace j5 := j5.symm
  replace j6 := j6.symm
  replace j7 := j7.symm
  replace j8 := j8.symm
  replace j9 := j9.symm
  subst j1 j2 j3 j4 j5 j6 j7 j8 j9
  clear ho q c hz
  obtain ⟨r1, hr1, h⟩ := h
  rw [(MS_r sm).1] at hr1
  rcases m_is_spec wok_seen s5 hr1 with ⟨q, c⟩ | ⟨q, c⟩
  · rw [if_pos c]
    rcases h with ⟨q2, -⟩ | ⟨-, h⟩
    · rw [q] at q2; exact absurd q2 one0
    refine exE10 h ?_
    clear h
    intro A E f u G M m p t w hl h
    refine exA9 h ?_
    clear h
    intro k1 k2 k3 k4 k5 k6 k7 k8 k9 k10
    subst k1 k2 k3 k4 k5 k6 k7 k8 k9 k10
    exact qm_seenLine hn i13 sm hl
  rw [if_neg c]
  rcases h with ⟨-, h⟩ | ⟨q2, -⟩
  case inr => exact absurd q q2
  clear hr1 q c
  refine exE1 h ?_
  clear h
  intro z hz h
  refine exE1 h ?_
  clear h
  intro b hb h
  refine exE10 h ?_
  clear h
  intro a1 e1 f1 u1 L1 n1 p1 t1 w1 r1 ho h
  rw [tc14] at hz
  rw [hz] at hb
  have hb := bcap_of hb
  subst hb
  rcases qm_opens hn wok_scratch sm ho with ⟨c, q, ms⟩ | ⟨c, q, j1, j2, j3, j4, j5, j6, j7, j8, j9⟩
  · rw [if_pos c]
    rcases h with ⟨q2, -⟩ | ⟨-, h⟩
    · rw [q] at q2; exact absurd q2 one0
    refine exE10 h ?_
    clear h
    intro A E f u G M m p t w hl h
    refine exA9 h ?_
    clear h
    intro k1 k2 k3 k4 k5 k6 k7 k8 k9 k10
    subst k1 k2 k3 k4 k5 k6 k7 k8 k9 k10
    cases ho2 : opnS F T n (bcap 6 (F 14)) a with
    | inl e =>
      rw [ho2] at ms
      refine exA2 (MS_l ms) ?_
      intro y1 y2 y3
      obtain ⟨x1, x2, x3⟩ := st_scratchLine y1 hl
      rw [bnd_l]
      exact ⟨x1, by rw [x2, y2], by rw [x3, y3]⟩
    | inr b =>
      rw [ho2] at ms
      refine exA4 (MS_r ms) ?_
      intro y1 y2 y3 y4 y5
      subst y3
      rw [bnd_r]
      exact qm_scratchLine hn (show IV (F 14) 0 5 from ⟨i14.1, by have e9 : (6 : Int32).toInt = 6 := (by decide); have := (opn_inr ho2).1; omega⟩) ⟨y1, y2, rfl, y4, y5⟩ hl
  rw [if_neg c]
  rcases h with ⟨-, h⟩ | ⟨q2, -⟩
  case inr => exact absurd q q2
  replace j1 := j1.symm
  replace j2 := j2.symm
  replace j3 := j3.symm
  replace j4 := j4.symm
  replace j5 := j5.symm
  replace j6 := j6.symm
  replace j7 := j7.symm
  replace j8 := j8.symm
  replace j9 := j9.symm
  subst j1 j2 j3 j4 j5 j6 j7 j8 j9
  clear ho q c hz
  refine exE3 h ?_
  clear h
  intro f2 u2 p2 hb h
  refine exA9 h ?_
  clear h
  intro k1 k2 k3 k4 k5 k6 k7 k8 k9 k10
  obtain ⟨x1, x2, x3⟩ := qm_bad (MS_r sm).1 hb
  exact ⟨by rw [k3, x1], by rw [k4, x2], by rw [k8, x3]⟩
