set_option maxRecDepth 100000
set_option maxHeartbeats 4000000
theorem NG.tb {F S g : Nat → Int32} {mi N k j : Nat} {c : Int32} (hG : NG F S mi N g) (hk : k < N) (hN : N ≤ 8) (hc : c.toInt = j) (hj : j < 10) : tbAt 8 10 g (nI k) c = COL F S mi N k j := by
  rw [tbN (R := 8) (V := 10) (a := 8) (b := 10) (by decide) (by decide) (by omega) (by omega) hc (by omega) hj]
  exact hG k j hk hj
theorem nI_d {a b : Nat} (h : b ≤ a) (h2 : a ≤ 1000) : nI a - nI b = nI (a - b) := Int32.toInt_inj.mp (by
  rw [subI (by rw [nI_toInt (by omega), nI_toInt (by omega)]; omega) (by rw [nI_toInt (by omega), nI_toInt (by omega)]; omega), nI_toInt (by omega), nI_toInt (by omega), nI_toInt (by omega)]; omega)
theorem clampE {z s r : Int32} (h1 : R_m_mostX z 0 s) (h2 : R_m_leastX s 199 r) : (if (0 : Int32) < (if (199 : Int32) < z then (199 : Int32) else z) then (if (199 : Int32) < z then (199 : Int32) else z) else (0 : Int32)) = r := by
  have e : (199 : Int32).toInt = 199 := by decide
  unfold R_m_mostX at h1
  unfold R_m_leastX at h2
  by_cases d : (199 : Int32) < z
  · rw [if_pos d, if_pos (by decide)]
    rw [lt_I, e] at d
    rcases h1 with ⟨c1, r1⟩ | ⟨c1, r1⟩
    · rw [le_I, zI] at c1; omega
    · rcases h2 with ⟨c2, r2⟩ | ⟨c2, r2⟩
      · exact r2.symm
      · rw [r1, le_I, e] at c2; omega
  · rw [if_neg d]
    rw [lt_I, e] at d
    by_cases d2 : 0 < z
    · rw [if_pos d2]
      rw [lt_I, zI] at d2
      rcases h1 with ⟨c1, r1⟩ | ⟨c1, r1⟩
      · rw [le_I, zI] at c1; omega
      · rcases h2 with ⟨c2, r2⟩ | ⟨c2, r2⟩
        · rw [r1, le_I, e] at c2
          rw [r2]
          exact Int32.toInt_inj.mp (by rw [e]; omega)
        · rw [r2, r1]
    · rw [if_neg d2]
      rw [lt_I, zI] at d2
      rcases h1 with ⟨c1, r1⟩ | ⟨c1, r1⟩
      · rcases h2 with ⟨c2, r2⟩ | ⟨c2, r2⟩
        · rw [r1] at c2; exact absurd c2 (by decide)
        · rw [r2, r1]
      · rw [le_I, zI] at c1; omega
theorem B_needs {F S : Nat → Int32} {hh r2 : Int32} {p0 p1 xsnapped xmostSlip xslip xisDrawn xseed xtick xmotorTick xahead nrn yhmn zmd zmn zwn zpn tr2 xsnapped2 xmostSlip2 xslip2 xisDrawn2 xseed2 xtick2 xmotorTick2 xahead2 nrk r : Int32} {nrf yhnf yhmf zrf zmf zwf zpf nrg : Nat → Int32} {d_from d_begin d_motor d_change d_startFrame d_changeFrame d_lostAt d_blackAt d_slips d_begin2 d_blackAt2 d_change2 d_changeFrame2 d_from2 d_lostAt2 d_motor2 d_slips2 d_startFrame2 : Nat → Int32} {m_thrown2 m_trouble2 : Int32} (hC : CN F S yhnf yhmn yhmf zrf zmn zmf zpn zpf) (hN : MN F S hh) (hc : R_c_needsX p0 p1 xsnapped xmostSlip xslip xisDrawn xseed xtick xmotorTick xahead nrn nrf yhnf yhmn yhmf zmd zrf zmn zmf zwn zwf zpn zpf tr2 xsnapped2 xmostSlip2 xslip2 xisDrawn2 xseed2 xtick2 xmotorTick2 xahead2 nrg nrk r) (hm : R_m_needsX p0 p1 hh F S d_from d_begin d_motor d_change d_startFrame d_changeFrame d_lostAt d_blackAt d_slips d_begin2 d_blackAt2 d_change2 d_changeFrame2 d_from2 d_lostAt2 d_motor2 d_slips2 d_startFrame2 m_thrown2 m_trouble2 r2) : r = r2 ∧ tr2 = m_trouble2 := by
  have b11 : (F 11).toInt ≤ 4 := hN.1.1.2
  have b12 : (F 12).toInt ≤ 8 := hN.1.2.2
  unfold R_c_needsX at hc
  unfold R_m_needsX R_m_goodX at hm
  obtain ⟨r1, hr1, hc⟩ := hc
  rw [hC.2.2.1.2.2] at hr1
  obtain ⟨u1, u2, ⟨g1, g2⟩, b', l', c', cf', f', lo', m', sl', st', r14, hcan, h⟩ := hm
  have ref : ∀ t s : Int32, t = 1 → s = -1 → ((p0 < 0 ∨ F 11 ≤ p0) ∨ (p1 < 0 ∨ F 12 ≤ p1)) → s = r2 ∧ t = m_trouble2 := by
    intro t s e1 e2 q
    rcases told_m hN hcan with ⟨-, w⟩ | ⟨mi, k, rfl, hmi, hmk, rfl, hk, -⟩
    · rcases h with ⟨-, t20, r21, hno, -, -, -, -, -, -, -, -, -, -, etr, er2⟩ | ⟨w2, -⟩
      · unfold R_m_noX at hno
        exact ⟨by rw [e2, er2, hno.2], by rw [e1, etr, hno.1]⟩
      · exact absurd w w2
    · exact (q.elim (inN (by omega) hmk) (inN (by omega) hk)).elim
  by_cases q : p1 < 0 ∨ F 12 ≤ p1
  · rw [if_pos q] at hr1
    rcases hc with ⟨-, t5, r6, hf, et, a⟩ | ⟨w, -⟩
    case inr => exact absurd hr1 w
    unfold R_c_refuseX at hf
    exact ref _ _ (et.trans hf.1) (a.2.2.2.2.2.2.2.2.2.2.trans hf.2) (Or.inr q)
  · rw [if_neg q] at hr1
    rcases hc with ⟨w, -⟩ | ⟨-, s8, s9, s10, s11, s12, s13, s14, s15, g16, k17, r18, hrun, hc⟩
    case inl => rw [hr1] at w; exact absurd w (by decide)
    rcases night_c hC hrun with ⟨u, e⟩ | ⟨e, mi, rfl, hmi, hmk, ek, hG⟩
    · rcases hc with ⟨w, -⟩ | ⟨-, t28, r29, hf, et, a⟩
      case inl => exact absurd e w
      unfold R_c_refuseX at hf
      exact ref _ _ (et.trans hf.1) (a.2.2.2.2.2.2.2.2.2.2.trans hf.2) (Or.inl u)
    · rcases hc with ⟨-, r22, hr22, t24, r25, hf, et, a⟩ | ⟨w, -⟩
      case inr => rw [e] at w; exact absurd w (by decide)
      unfold R_c_tellX at hf
      obtain ⟨N, n12, hN8⟩ := ivN 8 hN.1.2
      have tN : (F 12).toInt = N := by rw [n12, nI_toInt (by omega)]
      have eN : (F 12).toInt.toNat = N := by omega
      obtain ⟨k, rfl, hk0, hk⟩ := of_C n12 (by omega) q
      rcases told_m hN hcan with ⟨q2, w⟩ | ⟨mi2, k2, e3, hmi2, -, e4, hk3, er14, hM, hM2, -⟩
      · exact (q2.elim (inN (by omega) hmk) (inN (by omega) hk)).elim
      · obtain rfl : mi = mi2 := nI_inj (by omega) (by omega) e3
        obtain rfl : k = k2 := nI_inj (by omega) (by omega) e4
        rcases h with ⟨w, -⟩ | ⟨-, z29, hz, -, -, -, -, -, -, -, -, -, -, etr, er2⟩
        · rw [er14] at w; exact absurd w (by decide)
        refine ⟨?_, by rw [et, hf.1, etr, g2]⟩
        rw [a.2.2.2.2.2.2.2.2.2.2, hf.2, er2]
        rw [eN] at hM hM2 hG
        unfold R_n_neededX at hr22
        obtain ⟨x1, hx1, x2, hx2, x3, hx3, e22⟩ := hr22
        unfold R_m_needsOfX at hz
        obtain ⟨y1, hy1, y2, hy2, y3, hy3, e29⟩ := hz
        rw [e22, hx3, hx1, hx2, hG.tb (k := k) (c := 7) (j := 7) hk0 hN8 (by decide) (by omega), hG.tb (k := k) (c := 8) (j := 8) hk0 hN8 (by decide) (by omega), e29, hy3, hy1, hy2, nI_c (by omega), (hM k hk0).1, (hM2 k (by omega) hk0).2.2.2]
        rfl
theorem B_free {F S : Nat → Int32} {hh r2 : Int32} {p0 p1 xsnapped xmostSlip xslip xisDrawn xseed xtick xmotorTick xahead nrn yhmn zmd zmn zwn zpn tr2 xsnapped2 xmostSlip2 xslip2 xisDrawn2 xseed2 xtick2 xmotorTick2 xahead2 nrk r : Int32} {nrf yhnf yhmf zrf zmf zwf zpf nrg : Nat → Int32} {d_from d_begin d_motor d_change d_startFrame d_changeFrame d_lostAt d_blackAt d_slips d_begin2 d_blackAt2 d_change2 d_changeFrame2 d_from2 d_lostAt2 d_motor2 d_slips2 d_startFrame2 : Nat → Int32} {m_thrown2 m_trouble2 : Int32} (hC : CN F S yhnf yhmn yhmf zrf zmn zmf zpn zpf) (hN : MN F S hh) (hc : R_c_freeX p0 p1 xsnapped xmostSlip xslip xisDrawn xseed xtick xmotorTick xahead nrn nrf yhnf yhmn yhmf zmd zrf zmn zmf zwn zwf zpn zpf tr2 xsnapped2 xmostSlip2 xslip2 xisDrawn2 xseed2 xtick2 xmotorTick2 xahead2 nrg nrk r) (hm : R_m_freeX p0 p1 hh F S d_from d_begin d_motor d_change d_startFrame d_changeFrame d_lostAt d_blackAt d_slips d_begin2 d_blackAt2 d_change2 d_changeFrame2 d_from2 d_lostAt2 d_motor2 d_slips2 d_startFrame2 m_thrown2 m_trouble2 r2) : r = r2 ∧ tr2 = m_trouble2 := by
  have b11 : (F 11).toInt ≤ 4 := hN.1.1.2
  have b12 : (F 12).toInt ≤ 8 := hN.1.2.2
  unfold R_c_freeX at hc
  unfold R_m_freeX R_m_goodX at hm
  obtain ⟨r1, hr1, hc⟩ := hc
  rw [hC.2.2.1.2.2] at hr1
  obtain ⟨u1, u2, ⟨g1, g2⟩, b', l', c', cf', f', lo', m', sl', st', r14, hcan, h⟩ := hm
  have ref : ∀ t s : Int32, t = 1 → s = -1 → ((p0 < 0 ∨ F 11 ≤ p0) ∨ (p1 < 0 ∨ F 12 ≤ p1)) → s = r2 ∧ t = m_trouble2 := by
    intro t s e1 e2 q
    rcases told_m hN hcan with ⟨-, w⟩ | ⟨mi, k, rfl, hmi, hmk, rfl, hk, -⟩
    · rcases h with ⟨-, t20, r21, hno, -, -, -, -, -, -, -, -, -, -, etr, er2⟩ | ⟨w2, -⟩
      · unfold R_m_noX at hno
        exact ⟨by rw [e2, er2, hno.2], by rw [e1, etr, hno.1]⟩
      · exact absurd w w2
    · exact (q.elim (inN (by omega) hmk) (inN (by omega) hk)).elim
  by_cases q : p1 < 0 ∨ F 12 ≤ p1
  · rw [if_pos q] at hr1
    rcases hc with ⟨-, t5, r6, hf, et, a⟩ | ⟨w, -⟩
    case inr => exact absurd hr1 w
    unfold R_c_refuseX at hf
    exact ref _ _ (et.trans hf.1) (a.2.2.2.2.2.2.2.2.2.2.trans hf.2) (Or.inr q)
  · rw [if_neg q] at hr1
    rcases hc with ⟨w, -⟩ | ⟨-, s8, s9, s10, s11, s12, s13, s14, s15, g16, k17, r18, hrun, hc⟩
    case inl => rw [hr1] at w; exact absurd w (by decide)
    rcases night_c hC hrun with ⟨u, e⟩ | ⟨e, mi, rfl, hmi, hmk, ek, hG⟩
    · rcases hc with ⟨w, -⟩ | ⟨-, t28, r29, hf, et, a⟩
      case inl => exact absurd e w
      unfold R_c_refuseX at hf
      exact ref _ _ (et.trans hf.1) (a.2.2.2.2.2.2.2.2.2.2.trans hf.2) (Or.inl u)
    · rcases hc with ⟨-, r22, hr22, t24, r25, hf, et, a⟩ | ⟨w, -⟩
      case inr => rw [e] at w; exact absurd w (by decide)
      unfold R_c_tellX at hf
      obtain ⟨N, n12, hN8⟩ := ivN 8 hN.1.2
      have tN : (F 12).toInt = N := by rw [n12, nI_toInt (by omega)]
      have eN : (F 12).toInt.toNat = N := by omega
      obtain ⟨k, rfl, hk0, hk⟩ := of_C n12 (by omega) q
      rcases told_m hN hcan with ⟨q2, w⟩ | ⟨mi2, k2, e3, hmi2, -, e4, hk3, er14, hM, hM2, -⟩
      · exact (q2.elim (inN (by omega) hmk) (inN (by omega) hk)).elim
      · obtain rfl : mi = mi2 := nI_inj (by omega) (by omega) e3
        obtain rfl : k = k2 := nI_inj (by omega) (by omega) e4
        rcases h with ⟨w, -⟩ | ⟨-, z29, hz, -, -, -, -, -, -, -, -, -, -, etr, er2⟩
        · rw [er14] at w; exact absurd w (by decide)
        refine ⟨?_, by rw [et, hf.1, etr, g2]⟩
        rw [a.2.2.2.2.2.2.2.2.2.2, hf.2, er2]
        rw [eN] at hM hM2 hG
        have n2 : (2 : Int32) = nI 2 := by decide
        have z2 : ∀ z : Int32, z = nI k - 2 → 2 ≤ k → z = nI (k - 2) := fun z hz w => by rw [hz, n2, nI_d w (by omega)]
        have c2 : (2 : Int32) ≤ nI k ↔ 2 ≤ k := by rw [n2]; exact nI_gE (by omega) (by omega)
        unfold R_n_idleX at hr22
        unfold R_m_freeOfX at hz
        by_cases c : 2 ≤ k
        · rcases hr22 with ⟨-, x4, hx4, x6, hx6, x9, hx9, x11, hx11, e22⟩ | ⟨w, -⟩
          case inr => exact absurd (c2.mpr c) w
          rcases hz with ⟨-, y4, hy4, y5, hy5, y8, hy8, y9, hy9, e29⟩ | ⟨w, -⟩
          case inr => exact absurd (c2.mpr c) w
          rw [z2 _ hx6 c] at hx9
          rw [z2 _ hy5 c] at hy8
          rw [e22, hx11, hx4, hx9, hG.tb (k := k) (c := 8) (j := 8) hk0 hN8 (by decide) (by omega), hG.tb (k := k - 2) (c := 7) (j := 7) (by omega) hN8 (by decide) (by omega), e29, hy9, hy4, hy8, nI_c (by omega), nI_c (by omega), (hM (k - 2) (by omega)).1, (hM2 k (by omega) hk0).2.2.2]
          rfl
        · rcases hr22 with ⟨w, -⟩ | ⟨-, e22⟩
          · exact absurd (c2.mp w) c
          rcases hz with ⟨w, -⟩ | ⟨-, e29⟩
          · exact absurd (c2.mp w) c
          rw [e22, e29]
theorem B_exact {F S : Nat → Int32} {hh r2 : Int32} {p0 p1 xsnapped xmostSlip xslip xisDrawn xseed xtick xmotorTick xahead nrn yhmn zmd zmn zwn zpn tr2 xsnapped2 xmostSlip2 xslip2 xisDrawn2 xseed2 xtick2 xmotorTick2 xahead2 nrk r : Int32} {nrf yhnf yhmf zrf zmf zwf zpf nrg : Nat → Int32} {d_from d_begin d_motor d_change d_startFrame d_changeFrame d_lostAt d_blackAt d_slips d_begin2 d_blackAt2 d_change2 d_changeFrame2 d_from2 d_lostAt2 d_motor2 d_slips2 d_startFrame2 : Nat → Int32} {m_thrown2 m_trouble2 : Int32} (hC : CN F S yhnf yhmn yhmf zrf zmn zmf zpn zpf) (hN : MN F S hh) (hc : R_c_exactX p0 p1 xsnapped xmostSlip xslip xisDrawn xseed xtick xmotorTick xahead nrn nrf yhnf yhmn yhmf zmd zrf zmn zmf zwn zwf zpn zpf tr2 xsnapped2 xmostSlip2 xslip2 xisDrawn2 xseed2 xtick2 xmotorTick2 xahead2 nrg nrk r) (hm : R_m_exactX p0 p1 hh F S d_from d_begin d_motor d_change d_startFrame d_changeFrame d_lostAt d_blackAt d_slips d_begin2 d_blackAt2 d_change2 d_changeFrame2 d_from2 d_lostAt2 d_motor2 d_slips2 d_startFrame2 m_thrown2 m_trouble2 r2) : r = r2 ∧ tr2 = m_trouble2 := by
  have b11 : (F 11).toInt ≤ 4 := hN.1.1.2
  have b12 : (F 12).toInt ≤ 8 := hN.1.2.2
  unfold R_c_exactX at hc
  unfold R_m_exactX R_m_goodX at hm
  obtain ⟨u1, u2, ⟨g1, g2⟩, h⟩ := hm
  have ref : ∀ t s : Int32, t = 1 → s = -1 → (p1 = 0 ∨ (p0 < 0 ∨ F 11 ≤ p0) ∨ (p1 < 0 ∨ F 12 ≤ p1)) → s = r2 ∧ t = m_trouble2 := by
    intro t s e1 e2 q
    rcases h with ⟨-, t20, r21, hno, -, -, -, -, -, -, -, -, -, -, etr, er2⟩ | ⟨w1, b', l', c', cf', f', lo', m', sl', st', r14, hcan, h⟩
    · unfold R_m_noX at hno
      exact ⟨by rw [e2, er2, hno.2], by rw [e1, etr, hno.1]⟩
    · rcases told_m hN hcan with ⟨-, w⟩ | ⟨mi, k, rfl, hmi, hmk, rfl, hk, -⟩
      · rcases h with ⟨w2, -⟩ | ⟨-, t20, r21, hno, -, -, -, -, -, -, -, -, -, -, etr, er2⟩
        · exact absurd w w2
        · unfold R_m_noX at hno
          exact ⟨by rw [e2, er2, hno.2], by rw [e1, etr, hno.1]⟩
      · rcases q with q | q | q
        · rw [q] at w1; exact absurd (by decide) w1
        · exact absurd q (inN (by omega) hmk)
        · exact absurd q (inN (by omega) hk)
  by_cases q0 : p1 = 0
  · rcases hc with ⟨-, t3, r4, hf, et, a⟩ | ⟨w, -⟩
    case inr => exact absurd q0 w
    unfold R_c_refuseX at hf
    exact ref _ _ (et.trans hf.1) (a.2.2.2.2.2.2.2.2.2.2.trans hf.2) (Or.inl q0)
  rcases hc with ⟨w, -⟩ | ⟨-, r1, hr1, hc⟩
  case inl => exact absurd w q0
  rw [hC.2.2.1.2.2] at hr1
  by_cases q : p1 < 0 ∨ F 12 ≤ p1
  · rw [if_pos q] at hr1
    rcases hc with ⟨-, t5, r6, hf, et, a⟩ | ⟨w, -⟩
    case inr => exact absurd hr1 w
    unfold R_c_refuseX at hf
    exact ref _ _ (et.trans hf.1) (a.2.2.2.2.2.2.2.2.2.2.trans hf.2) (Or.inr (Or.inr q))
  · rw [if_neg q] at hr1
    rcases hc with ⟨w, -⟩ | ⟨-, s8, s9, s10, s11, s12, s13, s14, s15, g16, k17, r18, hrun, hc⟩
    case inl => rw [hr1] at w; exact absurd w (by decide)
    rcases night_c hC hrun with ⟨u, e⟩ | ⟨e, mi, rfl, hmi, hmk, ek, hG⟩
    · rcases hc with ⟨w, -⟩ | ⟨-, t28, r29, hf, et, a⟩
      case inl => exact absurd e w
      unfold R_c_refuseX at hf
      exact ref _ _ (et.trans hf.1) (a.2.2.2.2.2.2.2.2.2.2.trans hf.2) (Or.inr (Or.inl u))
    · rcases hc with ⟨-, r22, hr22, t24, r25, hf, et, a⟩ | ⟨w, -⟩
      case inr => rw [e] at w; exact absurd w (by decide)
      unfold R_c_tellX at hf
      obtain ⟨N, n12, hN8⟩ := ivN 8 hN.1.2
      have tN : (F 12).toInt = N := by rw [n12, nI_toInt (by omega)]
      have eN : (F 12).toInt.toNat = N := by omega
      obtain ⟨k, rfl, hk0, hk⟩ := of_C n12 (by omega) q
      have k0 : 1 ≤ k := Nat.pos_of_ne_zero fun w => q0 (by rw [w]; decide)
      have p1 : nI k - 1 = nI (k - 1) := by
        have n1 : (1 : Int32) = nI 1 := by decide
        rw [n1, nI_d k0 (by omega)]
      rcases h with ⟨w, -⟩ | ⟨-, b', l', c', cf', f', lo', m', sl', st', r14, hcan, h⟩
      · rw [lt_I, oneI, nI_toInt (by omega)] at w; omega
      rcases told_m hN hcan with ⟨q2, w⟩ | ⟨mi2, k2, e3, hmi2, -, e4, hk3, er14, hM, hM2, -⟩
      · exact (q2.elim (inN (by omega) hmk) (inN (by omega) hk)).elim
      obtain rfl : mi = mi2 := nI_inj (by omega) (by omega) e3
      obtain rfl : k = k2 := nI_inj (by omega) (by omega) e4
      rcases h with ⟨-, z33, h33, r36, h36, h⟩ | ⟨w, -⟩
      case inr => rw [er14] at w; exact absurd w (by decide)
      have hR := hN.2.2.2.1 (k - 1) (by omega)
      have hF := hN.2.2.1.2.2.1 (k - 1) (by omega)
      rw [eN] at hM hM2 hG
      have m2 := hM2 (k - 1) (by omega) (by omega)
      have m1 := hM (k - 1) (by omega)
      rw [h33, p1] at h36 h
      rw [gone_m (by omega) hR, m2.2.2.1, gone_it (by have := hF.1; omega)] at h36
      unfold R_n_exactThreadX at hr22
      obtain ⟨x1, hx1, x3, hx3, hr22⟩ := hr22
      rw [p1] at hx1
      rw [hx1, hG.tb (k := k - 1) (c := 3) (j := 3) (by omega) hN8 (by decide) (by omega)] at hx3
      have c3 : COL F S mi N (k - 1) 3 = (if frN F S (k - 1) ≤ (NTK F S mi (F (114 + 3 * mi + 2)) N (k - 1)).2.2 then 1 else 0) := rfl
      rw [c3] at hx3
      by_cases g : frN F S (k - 1) ≤ (NTK F S mi (F (114 + 3 * mi + 2)) N (k - 1)).2.2
      · rw [if_pos g] at hx3
        rw [if_neg (fun v => v g)] at h36
        rcases hr22 with ⟨w, -⟩ | ⟨-, e22⟩
        · exact absurd hx3 w
        rcases h with ⟨w, -⟩ | ⟨-, -, -, -, -, -, -, -, -, -, -, etr, er2⟩
        · rw [h36] at w; exact absurd w (by decide)
        exact ⟨by rw [a.2.2.2.2.2.2.2.2.2.2, hf.2, e22, er2], by rw [et, hf.1, etr, g2]⟩
      · rw [if_neg g] at hx3
        rw [if_pos g] at h36
        rcases hr22 with ⟨-, x6, hx6, x8, hx8, x10, hx10, x12, hx12, x14, hx14, x16, hx16, x17, hx17, e22⟩ | ⟨w, -⟩
        case inr => rw [hx3] at w; exact absurd w (by decide)
        rcases h with ⟨-, y41, hy41, y42, hy42, y43, hy43, y45, hy45, y46, hy46, y48, hy48, y50, hy50, -, -, -, -, -, -, -, -, -, -, etr, er2⟩ | ⟨w, -⟩
        case inr => exact absurd h36 w
        refine ⟨?_, by rw [et, hf.1, etr, g2]⟩
        rw [hx1, hG.tb (k := k - 1) (c := 5) (j := 5) (by omega) hN8 (by decide) (by omega)] at hx6
        rw [hx1, hG.tb (k := k - 1) (c := 4) (j := 4) (by omega) hN8 (by decide) (by omega)] at hx8
        rw [h_num (j := 1) (by decide) (by omega), hC.2.1.2] at hx12
        rw [nI_c (by omega), m1.2.1] at hy41
        rw [nI_c (by omega), m1.2.2.1] at hy42
        rw [tc_1] at hy45
        have ez : x14 = y46 := by
          rw [hx14, hx10, hx6, hx8, hx12, hy46, hy43, hy41, hy42, hy45]
          rfl
        rw [a.2.2.2.2.2.2.2.2.2.2, hf.2, e22, er2, hx17, hx16, ez]
        exact clampE hy48 hy50
