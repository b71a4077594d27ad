set_option maxRecDepth 100000
set_option maxHeartbeats 4000000
/-- which signs a night tells -/
def sgst (F S : Nat → Int32) (mi N : Nat) (m : Nat) (a : Int32) : Int32 := if NR F S mi (F (114 + 3 * mi + 2)) N (F (137 + 3 * m)).toInt.toNat 1 = F (137 + 3 * m + 1) ∧ NR F S mi (F (114 + 3 * mi + 2)) N (F (137 + 3 * m)).toInt.toNat 0 = F (137 + 3 * m + 2) then a ||| ((1 : Int32) <<< (nI m &&& 31)) else a
def SGN (F S : Nat → Int32) (mi N N13 : Nat) : Int32 := fo (sgst F S mi N) 0 N13 0
/-- what signs need of both sides -/
def SN (F : Nat → Int32) (yhsn : Int32) (yhsf : Nat → Int32) : Prop := yhsn = F 13 ∧ IV (F 13) 0 6 ∧ TV F yhsf 13 137 3 ∧ (∀ k : Nat, (k : Int) < (F 13).toInt → 0 ≤ (F (137 + 3 * k)).toInt ∧ (F (137 + 3 * k)).toInt < (F 12).toInt)
theorem signs_c {F S g yhsf : Nat → Int32} {mi N N13 : Nat} {r : Int32} (hG : NG F S mi N g) (hN : N ≤ 8) (h13 : F 13 = nI N13) (h6 : N13 ≤ 6) (hT : TV F yhsf 13 137 3) (hP : ∀ k : Nat, k < N13 → 0 ≤ (F (137 + 3 * k)).toInt ∧ (F (137 + 3 * k)).toInt < N) (h : R_n_signsSoX g (nI N13) yhsf r) : r = SGN F S mi N N13 := by
  have t13 : (F 13).toInt = N13 := by rw [h13, nI_toInt (by omega)]
  unfold R_n_signsSoX at h
  refine (lpE (κ := fun u => r = u) (st := sgst F S mi N) (N := N13) (L := fun t a u => R_n_signsSoX_L0 g (nI N13) yhsf (fun u_1 : Int32 => r = u_1) t a u) (fun a u h => h) (fun t a => ?_) (fun t a m hm => ?_) 0).mp h
  · show R_n_signsSoX_L0 g (nI N13) yhsf (fun u_1 : Int32 => r = u_1) (t + 1) a (nI N13) ↔ r = a
    rw [R_n_signsSoX_L0]
    simp only [exists_eq_left]
    rw [goI, if_pos (Int32.le_refl _)]
  · show R_n_signsSoX_L0 g (nI N13) yhsf (fun u_1 : Int32 => r = u_1) (t + 1) a (nI m) ↔ R_n_signsSoX_L0 g (nI N13) yhsf (fun u_1 : Int32 => r = u_1) t (sgst F S mi N m a) (nI (m + 1))
    have hm8 : m < 100000 := by omega
    obtain ⟨p1, p2⟩ := hP m hm
    obtain ⟨ρ, eρ, hρ⟩ := nI_oF p1
    have y0 : tbAt 6 3 yhsf (nI m) 0 = nI ρ := by
      rw [tbN (R := 6) (V := 3) (a := 6) (b := 3) (c := 0) (j := 0) (by decide) (by decide) (by omega) (by omega) (by decide) (by omega) (by omega), hT m 0 (by omega) (by omega), Nat.add_zero, eρ]
    have y1 : tbAt 6 3 yhsf (nI m) 1 = F (137 + 3 * m + 1) := by
      rw [tbN (R := 6) (V := 3) (a := 6) (b := 3) (c := 1) (j := 1) (by decide) (by decide) (by omega) (by omega) (by decide) (by omega) (by omega), hT m 1 (by omega) (by omega)]
    have y2 : tbAt 6 3 yhsf (nI m) 2 = F (137 + 3 * m + 2) := by
      rw [tbN (R := 6) (V := 3) (a := 6) (b := 3) (c := 2) (j := 2) (by decide) (by decide) (by omega) (by omega) (by decide) (by omega) (by omega), hT m 2 (by omega) (by omega)]
    have b1 : tbAt 8 10 g (nI ρ) 1 = NR F S mi (F (114 + 3 * mi + 2)) N ρ 1 := hG.tb (j := 1) (by omega) hN (by decide) (by omega)
    have b0 : tbAt 8 10 g (nI ρ) 0 = NR F S mi (F (114 + 3 * mi + 2)) N ρ 0 := hG.tb (j := 0) (by omega) hN (by decide) (by omega)
    rw [R_n_signsSoX_L0]
    simp only [exists_eq_left, exists_eq_left']
    rw [goI, if_neg (nI_nge (by omega) hm)]
    simp only [y0, y1, y2, b1, b0, ofI1, nI_s1 hm8, goN, goI, ne_eq]
    unfold sgst
    rw [hρ, Int.toNat_natCast]
    rcases tf (NR F S mi (F (114 + 3 * mi + 2)) N ρ 1 = F (137 + 3 * m + 1)) with q0 | q0 <;> rcases tf (NR F S mi (F (114 + 3 * mi + 2)) N ρ 0 = F (137 + 3 * m + 2)) with q1 | q1 <;> simp only [q0, q1, if_true, if_false, ↓reduceIte, and_true, and_false, true_and, false_and]
theorem signs_m {F S bl lo : Nat → Int32} {mi N N13 : Nat} {κ : Int32 → Prop} (hl : ∀ k : Nat, k < N → lo k = NR F S mi (F (114 + 3 * mi + 2)) N k 0) (hb : ∀ k : Nat, k < N → bl k = NR F S mi (F (114 + 3 * mi + 2)) N k 1) (hN : N ≤ 8) (h13 : F 13 = nI N13) (h6 : N13 ≤ 6) (hP : ∀ k : Nat, k < N13 → 0 ≤ (F (137 + 3 * k)).toInt ∧ (F (137 + 3 * k)).toInt < N) (h : ∃ t : Nat, R_m_signsOfX_L0 F bl lo κ t 0 0) : κ (SGN F S mi N N13) := by
  have t13 : (F 13).toInt = N13 := by rw [h13, nI_toInt (by omega)]
  have c13 : (13 : Int32).toNatClampNeg = 13 := by decide
  refine (lpE (κ := κ) (st := sgst F S mi N) (N := N13) (L := fun t a u => R_m_signsOfX_L0 F bl lo κ t a u) (fun a u h => h) (fun t a => ?_) (fun t a m hm => ?_) 0).mp h
  · show R_m_signsOfX_L0 F bl lo κ (t + 1) a (nI N13) ↔ κ a
    rw [R_m_signsOfX_L0]
    simp only [exists_eq_left, c13, h13]
    rw [goI, if_pos (Int32.le_refl _)]
  · show R_m_signsOfX_L0 F bl lo κ (t + 1) a (nI m) ↔ R_m_signsOfX_L0 F bl lo κ t (sgst F S mi N m a) (nI (m + 1))
    have hm8 : m < 100000 := by omega
    have hm9 : m ≤ 1000 := by omega
    obtain ⟨p1, p2⟩ := hP m hm
    obtain ⟨ρ, eρ, hρ⟩ := nI_oF p1
    rw [R_m_signsOfX_L0]
    simp only [exists_eq_left, exists_eq_left', c13, h13]
    rw [goI, if_neg (nI_nge (by omega) hm)]
    simp only [ix_137_3_0 hm9, ix_137_3_1 hm9, ix_137_3_2 hm9, eρ, nI_c (show ρ < 100000 by omega), hl ρ (by omega), hb ρ (by omega), ofI1, nI_s1 hm8, goN, goI, ne_eq, Int32.or_zero]
    unfold sgst
    rw [hρ, Int.toNat_natCast]
    rcases tf (NR F S mi (F (114 + 3 * mi + 2)) N ρ 1 = F (137 + 3 * m + 1)) with q0 | q0 <;> rcases tf (NR F S mi (F (114 + 3 * mi + 2)) N ρ 0 = F (137 + 3 * m + 2)) with q1 | q1 <;> simp only [q0, q1, if_true, if_false, ↓reduceIte, and_true, and_false, true_and, false_and]
theorem layT_m {F S : Nat → Int32} {hh : Int32} {mi N : Nat} {d_from d_begin d_motor d_change d_startFrame d_changeFrame d_lostAt d_blackAt d_slips d_begin2 d_blackAt2 d_change2 d_changeFrame2 d_from2 d_lostAt2 d_motor2 d_slips2 d_startFrame2 : Nat → Int32} (hm : MN F S hh) (n12 : F 12 = nI N) (h1 : 1 ≤ N) (hN : N ≤ 8) (hmk : (mi : Int) < (F 11).toInt) (h : R_m_layToldX (nI mi) F S d_from d_begin d_motor d_change d_startFrame d_changeFrame d_lostAt d_blackAt d_slips d_begin2 d_blackAt2 d_change2 d_changeFrame2 d_from2 d_lostAt2 d_motor2 d_slips2 d_startFrame2) : NM F S mi (F (114 + 3 * mi + 2)) N N d_begin2 d_blackAt2 d_change2 d_changeFrame2 d_from2 d_lostAt2 d_motor2 d_startFrame2 := by
  have tN : (F 12).toInt = N := by rw [n12, nI_toInt (by omega)]
  have eN : (F 12).toInt.toNat = N := by omega
  have b11 : (F 11).toInt ≤ 4 := hm.1.1.2
  obtain ⟨-, -, hB, hr, hb⟩ := hm
  unfold R_m_layToldX at h
  obtain ⟨t, hL⟩ := h
  obtain ⟨g, hg, hs⟩ := told_0 (by omega) hL
  obtain ⟨x1, x2, x3, x4, x5, x6, x7, x8, hlay, rfl, rfl, rfl, rfl, rfl, rfl, rfl, rfl, rfl⟩ := hg
  rw [eN] at hB
  exact lay_0 hB n12 h1 hN (fun k hk => hr k (by omega)) (fun k hk => hb mi k hmk (by omega)) (fun k hk => hs k (by omega)) hlay
theorem sgO_m {F S yhsf : Nat → Int32} {hh yhsn : Int32} {mi N N13 : Nat} {d_from d_begin d_motor d_change d_startFrame d_changeFrame d_lostAt d_blackAt d_slips d_begin2 d_blackAt2 d_change2 d_changeFrame2 d_from2 d_lostAt2 d_motor2 d_slips2 d_startFrame2 : Nat → Int32} {r : Int32} (hm : MN F S hh) (hS : SN F yhsn yhsf) (n12 : F 12 = nI N) (h1 : 1 ≤ N) (hN : N ≤ 8) (h13 : F 13 = nI N13) (h6 : N13 ≤ 6) (hmk : (mi : Int) < (F 11).toInt) (h : R_m_signsOfX (nI mi) F S d_from d_begin d_motor d_change d_startFrame d_changeFrame d_lostAt d_blackAt d_slips d_begin2 d_blackAt2 d_change2 d_changeFrame2 d_from2 d_lostAt2 d_motor2 d_slips2 d_startFrame2 r) : r = SGN F S mi N N13 := by
  have tN : (F 12).toInt = N := by rw [n12, nI_toInt (by omega)]
  have t13 : (F 13).toInt = N13 := by rw [h13, nI_toInt (by omega)]
  unfold R_m_signsOfX at h
  obtain ⟨x1, x2, x3, x4, x5, x6, x7, x8, x9, hlay, h⟩ := h
  obtain ⟨hM, hM2, -⟩ := layT_m hm n12 h1 hN hmk hlay
  have w := signs_m (fun k hk => (hM k hk).2.2.2) (fun k hk => (hM2 k (by omega) hk).2.1) hN h13 h6 (fun k hk => by have := hS.2.2.2 k (by omega); omega) h
  exact w.2.2.2.2.2.2.2.2.2
theorem B_signs {F S : Nat → Int32} {hh r2 : Int32} {p0 xsnapped xmostSlip xslip xisDrawn xseed xtick xmotorTick xahead nrn yhmn yhsn zmd zmn zwn zpn tr2 xsnapped2 xmostSlip2 xslip2 xisDrawn2 xseed2 xtick2 xmotorTick2 xahead2 nrk r : Int32} {nrf yhnf yhmf yhsf zrf zmf zwf zpf nrg : Nat → Int32} {d_from d_begin d_motor d_change d_startFrame d_changeFrame d_lostAt d_blackAt d_slips d_begin2 d_blackAt2 d_change2 d_changeFrame2 d_from2 d_lostAt2 d_motor2 d_slips2 d_startFrame2 : Nat → Int32} {m_thrown2 m_trouble2 : Int32} (hC : CN F S yhnf yhmn yhmf zrf zmn zmf zpn zpf) (hN : MN F S hh) (hS : SN F yhsn yhsf) (hp : 0 < (F 11).toInt → 0 < (F 12).toInt) (hc : R_c_signsX p0 xsnapped xmostSlip xslip xisDrawn xseed xtick xmotorTick xahead nrn nrf yhnf yhmn yhmf yhsn yhsf zmd zrf zmn zmf zwn zwf zpn zpf tr2 xsnapped2 xmostSlip2 xslip2 xisDrawn2 xseed2 xtick2 xmotorTick2 xahead2 nrg nrk r) (hm : R_m_signsX p0 hh F S d_from d_begin d_motor d_change d_startFrame d_changeFrame d_lostAt d_blackAt d_slips d_begin2 d_blackAt2 d_change2 d_changeFrame2 d_from2 d_lostAt2 d_motor2 d_slips2 d_startFrame2 m_thrown2 m_trouble2 r2) : r = r2 ∧ tr2 = m_trouble2 := by
  have b11 : (F 11).toInt ≤ 4 := hN.1.1.2
  have b12 : (F 12).toInt ≤ 8 := hN.1.2.2
  unfold R_c_signsX at hc
  unfold R_m_signsX R_m_goodX at hm
  obtain ⟨u1, u2, ⟨g1, g2⟩, q5, hq5, h⟩ := hm
  have hq5 := isManX hN.1.1 (fun q => (hN.2.1 q).1) hq5
  obtain ⟨s2, s3, s4, s5, s6, s7, s8, s9, g16, k17, r18, hrun, hc⟩ := hc
  rcases night_c hC hrun with ⟨u, e⟩ | ⟨e, mi, rfl, hmi, hmk, ek, hG⟩
  · rcases hc with ⟨-, t28, r29, hf, et, a⟩ | ⟨w, -⟩
    case inr => exact absurd e w
    rw [if_pos u] at hq5
    rcases h with ⟨-, t20, r21, hno, -, -, -, -, -, -, -, -, -, -, etr, er2⟩ | ⟨w, -⟩
    case inr => exact absurd hq5 w
    unfold R_c_refuseX at hf
    unfold R_m_noX at hno
    exact ⟨by rw [a.2.2.2.2.2.2.2.2.2.2, hf.2, er2, hno.2], by rw [et, hf.1, etr, hno.1]⟩
  rcases hc with ⟨w, -⟩ | ⟨-, r22, hr22, t24, r25, hf, et, a⟩
  case inl => rw [e] at w; exact absurd w (by decide)
  rw [if_neg (inN (by omega) hmk)] at hq5
  rcases h with ⟨w, -⟩ | ⟨-, x1, x2, x3, x4, x5, x6, x7, x8, x9, r27, h27, -, -, -, -, -, -, -, -, -, -, etr, er2⟩
  case inl => rw [hq5] at w; exact absurd w (by decide)
  have hp0 := hp (by omega)
  obtain ⟨N, n12, hN8⟩ := ivN 8 hN.1.2
  have tN : (F 12).toInt = N := by rw [n12, nI_toInt (by omega)]
  have eN : (F 12).toInt.toNat = N := by omega
  obtain ⟨N13, n13, h6⟩ := ivN 6 hS.2.1
  have t13 : (F 13).toInt = N13 := by rw [n13, nI_toInt (by omega)]
  unfold R_c_tellX at hf
  rw [eN] at hG
  rw [hS.1, n13] at hr22
  refine ⟨?_, by rw [et, hf.1, etr, g2]⟩
  rw [a.2.2.2.2.2.2.2.2.2.2, hf.2, er2, signs_c hG hN8 n13 h6 hS.2.2.1 (fun k hk => by have := hS.2.2.2 k (by omega); omega) hr22, sgO_m hN hS n12 (by omega) hN8 n13 h6 hmk h27]
