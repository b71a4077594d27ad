set_option maxRecDepth 100000
set_option maxHeartbeats 4000000
theorem sum_c {N : Nat} {nrf : Nat → Int32} {c r : Int32} : R_n_sumX c (nI N) nrf r → N ≤ 8 → r = fo (fun k a => a + tbAt 8 10 nrf (nI k) c) 0 N 0 := by
  intro h hN
  unfold R_n_sumX at h
  refine (lpE (κ := fun u => r = u) (st := fun k a => a + tbAt 8 10 nrf (nI k) c) (N := N) (L := fun t a u => R_n_sumX_L0 c (nI N) nrf (fun u_1 : Int32 => r = u_1) t a u) (fun a u h => h) (fun t a => ?_) (fun t a m hm => ?_) 0).mp h
  · show R_n_sumX_L0 c (nI N) nrf (fun u_1 : Int32 => r = u_1) (t + 1) a (nI N) ↔ r = a
    rw [R_n_sumX_L0]
    simp only [exists_eq_left]
    rw [goI, if_pos (Int32.le_refl _)]
  · show R_n_sumX_L0 c (nI N) nrf (fun u_1 : Int32 => r = u_1) (t + 1) a (nI m) ↔ R_n_sumX_L0 c (nI N) nrf (fun u_1 : Int32 => r = u_1) t (a + tbAt 8 10 nrf (nI m) c) (nI (m + 1))
    have hm8 : m < 100000 := by omega
    rw [R_n_sumX_L0]
    simp only [exists_eq_left, exists_eq_left']
    rw [goI, if_neg (nI_nge (by omega) hm)]
    simp only [ofI1, nI_s1 hm8]
theorem tail_m {F S fr cf : Nat → Int32} {mi N k : Nat} {sl r : Int32} (hk : k ≤ 100) (hR : 0 ≤ (F (126 + k)).toInt ∧ (F (126 + k)).toInt ≤ 8) (hF : 1 ≤ (frN F S k).toInt) (e1 : fr k = nlost (NTK F S mi sl N k).2.2) (e2 : cf k = NR F S mi sl N k 5) : R_m_tailOfX (nI k) F S fr cf r ↔ r = NR F S mi sl N k 2 := by
  unfold R_m_tailOfX
  simp only [gone_m hk hR, frames_m hk hR, nI_c (show k < 100000 by omega), e1, e2, exists_eq_left, ite01, goI, gone_iff hF]
  have h5 : NR F S mi sl N k 5 = (if frN F S k ≤ (NTK F S mi sl N k).2.2 then 0 else nchange F S mi sl N k (NTK F S mi sl N k).2.2) := rfl
  have h2 : NR F S mi sl N k 2 = (if frN F S k ≤ (NTK F S mi sl N k).2.2 then 0 else frN F S k - nchange F S mi sl N k (NTK F S mi sl N k).2.2) := rfl
  rw [h5, h2]
  by_cases g : frN F S k ≤ (NTK F S mi sl N k).2.2
  · rw [if_pos g, if_pos g, if_neg (fun v => v g)]
  · rw [if_neg g, if_neg g, if_pos g]
theorem isG_m {F S fr : Nat → Int32} {mi N k : Nat} {sl r : Int32} (hk : k ≤ 100) (hR : 0 ≤ (F (126 + k)).toInt ∧ (F (126 + k)).toInt ≤ 8) (hF : 1 ≤ (frN F S k).toInt) (e1 : fr k = nlost (NTK F S mi sl N k).2.2) : R_m_isGoneX (nI k) F S fr r ↔ r = NR F S mi sl N k 3 := by
  rw [gone_m hk hR, e1]
  have h3 : NR F S mi sl N k 3 = (if frN F S k ≤ (NTK F S mi sl N k).2.2 then 1 else 0) := rfl
  rw [h3]
  by_cases g : frN F S k ≤ (NTK F S mi sl N k).2.2
  · rw [if_pos g, if_neg (fun v => (gone_iff hF).mp v g)]
  · rw [if_neg g, if_pos ((gone_iff hF).mpr g)]
theorem sum_m0 {F S fr cf lo bl : Nat → Int32} {N : Nat} {v : Nat → Nat → Int32} {r : Int32} (h12 : F 12 = nI N) (hN : N ≤ 8) (hl : ∀ k : Nat, k < N → lo k = v k 0) (hb : ∀ k : Nat, k < N → bl k = v k 1) (ht : ∀ k : Nat, k < N → ∀ r : Int32, R_m_tailOfX (nI k) F S fr cf r ↔ r = v k 2) (hg : ∀ k : Nat, k < N → ∀ r : Int32, R_m_isGoneX (nI k) F S fr r ↔ r = v k 3) (h01 : ∀ k : Nat, k < N → v k 3 = 0 ∨ v k 3 = 1) (h : R_m_sumOfX 0 F S fr cf lo bl r) : r = fo (fun k a => a + v k 0) 0 N 0 := by
  unfold R_m_sumOfX at h
  refine (lpE (κ := fun u => r = u) (st := fun k a => a + v k 0) (N := N) (L := fun t a u => R_m_sumOfX_L0 0 F S fr cf lo bl (fun u_1 : Int32 => r = u_1) t a u) (fun a u h => h) (fun t a => ?_) (fun t a m hm => ?_) 0).mp h
  · show R_m_sumOfX_L0 0 F S fr cf lo bl (fun u_1 : Int32 => r = u_1) (t + 1) a (nI N) ↔ r = a
    rw [R_m_sumOfX_L0]
    simp only [exists_eq_left, tc_12, h12]
    rw [goI, if_pos (Int32.le_refl _)]
  · show R_m_sumOfX_L0 0 F S fr cf lo bl (fun u_1 : Int32 => r = u_1) (t + 1) a (nI m) ↔ R_m_sumOfX_L0 0 F S fr cf lo bl (fun u_1 : Int32 => r = u_1) t (a + v m 0) (nI (m + 1))
    have hm8 : m < 100000 := by omega
    rw [R_m_sumOfX_L0]
    simp only [exists_eq_left, exists_eq_left', tc_12, h12]
    rw [goI, if_neg (nI_nge (by omega) hm)]
    simp (decide := true) only [exists_eq_left, exists_eq_left', ne_eq, goN, goI, ofI1, nI_s1 hm8, nI_c hm8, ↓reduceIte, Int32.add_zero, true_and, false_and, not_true_eq_false, not_false_eq_true, or_false, false_or, if_true, if_false]
    simp only [hl m hm]
theorem sum_m1 {F S fr cf lo bl : Nat → Int32} {N : Nat} {v : Nat → Nat → Int32} {r : Int32} (h12 : F 12 = nI N) (hN : N ≤ 8) (hl : ∀ k : Nat, k < N → lo k = v k 0) (hb : ∀ k : Nat, k < N → bl k = v k 1) (ht : ∀ k : Nat, k < N → ∀ r : Int32, R_m_tailOfX (nI k) F S fr cf r ↔ r = v k 2) (hg : ∀ k : Nat, k < N → ∀ r : Int32, R_m_isGoneX (nI k) F S fr r ↔ r = v k 3) (h01 : ∀ k : Nat, k < N → v k 3 = 0 ∨ v k 3 = 1) (h : R_m_sumOfX 1 F S fr cf lo bl r) : r = fo (fun k a => a + v k 1) 0 N 0 := by
  unfold R_m_sumOfX at h
  refine (lpE (κ := fun u => r = u) (st := fun k a => a + v k 1) (N := N) (L := fun t a u => R_m_sumOfX_L0 1 F S fr cf lo bl (fun u_1 : Int32 => r = u_1) t a u) (fun a u h => h) (fun t a => ?_) (fun t a m hm => ?_) 0).mp h
  · show R_m_sumOfX_L0 1 F S fr cf lo bl (fun u_1 : Int32 => r = u_1) (t + 1) a (nI N) ↔ r = a
    rw [R_m_sumOfX_L0]
    simp only [exists_eq_left, tc_12, h12]
    rw [goI, if_pos (Int32.le_refl _)]
  · show R_m_sumOfX_L0 1 F S fr cf lo bl (fun u_1 : Int32 => r = u_1) (t + 1) a (nI m) ↔ R_m_sumOfX_L0 1 F S fr cf lo bl (fun u_1 : Int32 => r = u_1) t (a + v m 1) (nI (m + 1))
    have hm8 : m < 100000 := by omega
    rw [R_m_sumOfX_L0]
    simp only [exists_eq_left, exists_eq_left', tc_12, h12]
    rw [goI, if_neg (nI_nge (by omega) hm)]
    simp (decide := true) only [exists_eq_left, exists_eq_left', ne_eq, goN, goI, ofI1, nI_s1 hm8, nI_c hm8, ↓reduceIte, Int32.add_zero, true_and, false_and, not_true_eq_false, not_false_eq_true, or_false, false_or, if_true, if_false]
    simp only [hb m hm]
theorem sum_m2 {F S fr cf lo bl : Nat → Int32} {N : Nat} {v : Nat → Nat → Int32} {r : Int32} (h12 : F 12 = nI N) (hN : N ≤ 8) (hl : ∀ k : Nat, k < N → lo k = v k 0) (hb : ∀ k : Nat, k < N → bl k = v k 1) (ht : ∀ k : Nat, k < N → ∀ r : Int32, R_m_tailOfX (nI k) F S fr cf r ↔ r = v k 2) (hg : ∀ k : Nat, k < N → ∀ r : Int32, R_m_isGoneX (nI k) F S fr r ↔ r = v k 3) (h01 : ∀ k : Nat, k < N → v k 3 = 0 ∨ v k 3 = 1) (h : R_m_sumOfX 2 F S fr cf lo bl r) : r = fo (fun k a => a + v k 2) 0 N 0 := by
  unfold R_m_sumOfX at h
  refine (lpE (κ := fun u => r = u) (st := fun k a => a + v k 2) (N := N) (L := fun t a u => R_m_sumOfX_L0 2 F S fr cf lo bl (fun u_1 : Int32 => r = u_1) t a u) (fun a u h => h) (fun t a => ?_) (fun t a m hm => ?_) 0).mp h
  · show R_m_sumOfX_L0 2 F S fr cf lo bl (fun u_1 : Int32 => r = u_1) (t + 1) a (nI N) ↔ r = a
    rw [R_m_sumOfX_L0]
    simp only [exists_eq_left, tc_12, h12]
    rw [goI, if_pos (Int32.le_refl _)]
  · show R_m_sumOfX_L0 2 F S fr cf lo bl (fun u_1 : Int32 => r = u_1) (t + 1) a (nI m) ↔ R_m_sumOfX_L0 2 F S fr cf lo bl (fun u_1 : Int32 => r = u_1) t (a + v m 2) (nI (m + 1))
    have hm8 : m < 100000 := by omega
    rw [R_m_sumOfX_L0]
    simp only [exists_eq_left, exists_eq_left', tc_12, h12]
    rw [goI, if_neg (nI_nge (by omega) hm)]
    simp (decide := true) only [exists_eq_left, exists_eq_left', ne_eq, goN, goI, ofI1, nI_s1 hm8, nI_c hm8, ↓reduceIte, Int32.add_zero, true_and, false_and, not_true_eq_false, not_false_eq_true, or_false, false_or, if_true, if_false]
    simp only [ht m hm, exists_eq_left]
theorem sum_m3 {F S fr cf lo bl : Nat → Int32} {N : Nat} {v : Nat → Nat → Int32} {r : Int32} (h12 : F 12 = nI N) (hN : N ≤ 8) (hl : ∀ k : Nat, k < N → lo k = v k 0) (hb : ∀ k : Nat, k < N → bl k = v k 1) (ht : ∀ k : Nat, k < N → ∀ r : Int32, R_m_tailOfX (nI k) F S fr cf r ↔ r = v k 2) (hg : ∀ k : Nat, k < N → ∀ r : Int32, R_m_isGoneX (nI k) F S fr r ↔ r = v k 3) (h01 : ∀ k : Nat, k < N → v k 3 = 0 ∨ v k 3 = 1) (h : R_m_sumOfX 3 F S fr cf lo bl r) : r = fo (fun k a => a + v k 3) 0 N 0 := by
  unfold R_m_sumOfX at h
  refine (lpE (κ := fun u => r = u) (st := fun k a => a + v k 3) (N := N) (L := fun t a u => R_m_sumOfX_L0 3 F S fr cf lo bl (fun u_1 : Int32 => r = u_1) t a u) (fun a u h => h) (fun t a => ?_) (fun t a m hm => ?_) 0).mp h
  · show R_m_sumOfX_L0 3 F S fr cf lo bl (fun u_1 : Int32 => r = u_1) (t + 1) a (nI N) ↔ r = a
    rw [R_m_sumOfX_L0]
    simp only [exists_eq_left, tc_12, h12]
    rw [goI, if_pos (Int32.le_refl _)]
  · show R_m_sumOfX_L0 3 F S fr cf lo bl (fun u_1 : Int32 => r = u_1) (t + 1) a (nI m) ↔ R_m_sumOfX_L0 3 F S fr cf lo bl (fun u_1 : Int32 => r = u_1) t (a + v m 3) (nI (m + 1))
    have hm8 : m < 100000 := by omega
    rw [R_m_sumOfX_L0]
    simp only [exists_eq_left, exists_eq_left', tc_12, h12]
    rw [goI, if_neg (nI_nge (by omega) hm)]
    simp (decide := true) only [exists_eq_left, exists_eq_left', ne_eq, goN, goI, ofI1, nI_s1 hm8, nI_c hm8, ↓reduceIte, Int32.add_zero, true_and, false_and, not_true_eq_false, not_false_eq_true, or_false, false_or, if_true, if_false]
    simp only [hg m hm, exists_eq_left]
    rcases h01 m hm with e | e
    · rw [e]
      simp (decide := true) only [↓reduceIte, Int32.add_zero]
    · rw [e]
      simp (decide := true) only [↓reduceIte]
theorem c03 {p : Int32} (h1 : ¬ p < 0) (h2 : ¬ (3 : Int32) < p) : ∃ j : Nat, p = nI j ∧ j < 4 := by
  have e3 : (3 : Int32).toInt = 3 := by decide
  rw [lt_I, zI] at h1
  rw [lt_I, e3] at h2
  obtain ⟨k, e, hk⟩ := nI_oF (x := p) (by omega)
  exact ⟨k, e, by omega⟩
theorem B_all {F S : Nat → Int32} {hh r2 : Int32} {p0 p1 xsnapped xmostSlip xslip xisDrawn xseed xtick xmotorTick xahead nrn yhmn zmd zmn zwn zpn tr2 xsnapped2 xmostSlip2 xslip2 xisDrawn2 xseed2 xtick2 xmotorTick2 xahead2 nrk r : Int32} {nrf yhnf yhmf zrf zmf zwf zpf nrg : Nat → Int32} {d_from d_begin d_motor d_change d_startFrame d_changeFrame d_lostAt d_blackAt d_slips d_begin2 d_blackAt2 d_change2 d_changeFrame2 d_from2 d_lostAt2 d_motor2 d_slips2 d_startFrame2 : Nat → Int32} {m_thrown2 m_trouble2 : Int32} (hC : CN F S yhnf yhmn yhmf zrf zmn zmf zpn zpf) (hN : MN F S hh) (hp : 0 < (F 11).toInt → 0 < (F 12).toInt) (hc : R_c_allX p0 p1 xsnapped xmostSlip xslip xisDrawn xseed xtick xmotorTick xahead nrn nrf yhnf yhmn yhmf zmd zrf zmn zmf zwn zwf zpn zpf tr2 xsnapped2 xmostSlip2 xslip2 xisDrawn2 xseed2 xtick2 xmotorTick2 xahead2 nrg nrk r) (hm : R_m_allX p0 p1 hh F S d_from d_begin d_motor d_change d_startFrame d_changeFrame d_lostAt d_blackAt d_slips d_begin2 d_blackAt2 d_change2 d_changeFrame2 d_from2 d_lostAt2 d_motor2 d_slips2 d_startFrame2 m_thrown2 m_trouble2 r2) : r = r2 ∧ tr2 = m_trouble2 := by
  have b11 : (F 11).toInt ≤ 4 := hN.1.1.2
  have b12 : (F 12).toInt ≤ 8 := hN.1.2.2
  unfold R_c_allX at hc
  unfold R_m_allX R_m_goodX at hm
  obtain ⟨u1, u2, ⟨g1, g2⟩, q5, hq5, h⟩ := hm
  rw [inX] at hq5
  have ref : ∀ t s : Int32, t = 1 → s = -1 → ((p1 < 0 ∨ (3 : Int32) < p1) ∨ (p0 < 0 ∨ F 11 ≤ p0)) → s = r2 ∧ t = m_trouble2 := by
    intro t s e1 e2 q
    by_cases qq : p1 < 0 ∨ (3 : Int32) < p1
    · rw [if_pos qq] at hq5
      rcases h with ⟨-, t20, r21, hno, -, -, -, -, -, -, -, -, -, -, etr, er2⟩ | ⟨w, -⟩
      · unfold R_m_noX at hno
        exact ⟨by rw [e2, er2, hno.2], by rw [e1, etr, hno.1]⟩
      · exact absurd hq5 w
    · rw [if_neg qq] at hq5
      rcases h with ⟨w, -⟩ | ⟨-, b', l', c', cf', f', lo', m', sl', st', r14, hcan, h⟩
      · rw [hq5] at w; exact absurd w (by decide)
      rcases told_m hN hcan with ⟨-, w⟩ | ⟨mi, k, rfl, hmi, hmk, -⟩
      · rcases h with ⟨-, t20, r21, hno, -, -, -, -, -, -, -, -, -, -, etr, er2⟩ | ⟨w2, -⟩
        · unfold R_m_noX at hno
          exact ⟨by rw [e2, er2, hno.2], by rw [e1, etr, hno.1]⟩
        · exact absurd w w2
      · rcases q with q | q
        · exact absurd q qq
        · exact absurd q (inN (by omega) hmk)
  rcases hc with ⟨w, t3, r4, hf, et, a⟩ | ⟨w, hc⟩
  · unfold R_c_refuseX at hf
    exact ref _ _ (et.trans hf.1) (a.2.2.2.2.2.2.2.2.2.2.trans hf.2) (Or.inl (Or.inl w))
  rcases hc with ⟨w3, t3, r4, hf, et, a⟩ | ⟨w3, s8, s9, s10, s11, s12, s13, s14, s15, g16, k17, r18, hrun, hc⟩
  · unfold R_c_refuseX at hf
    exact ref _ _ (et.trans hf.1) (a.2.2.2.2.2.2.2.2.2.2.trans hf.2) (Or.inl (Or.inr w3))
  rcases night_c hC hrun with ⟨u, e⟩ | ⟨e, mi, rfl, hmi, hmk, ek, hG⟩
  · rcases hc with ⟨w, -⟩ | ⟨-, t28, r29, hf, et, a⟩
    case inl => exact absurd e w
    unfold R_c_refuseX at hf
    exact ref _ _ (et.trans hf.1) (a.2.2.2.2.2.2.2.2.2.2.trans hf.2) (Or.inr u)
  rcases hc with ⟨-, hc⟩ | ⟨w, -⟩
  case inr => rw [e] at w; exact absurd w (by decide)
  have hp0 := hp (by omega)
  rw [if_neg (fun v => v.elim w w3)] at hq5
  rcases h with ⟨v, -⟩ | ⟨-, b', l', c', cf', f', lo', m', sl', st', r14, hcan, h⟩
  · rw [hq5] at v; exact absurd v (by decide)
  obtain ⟨N, n12, hN8⟩ := ivN 8 hN.1.2
  have tN : (F 12).toInt = N := by rw [n12, nI_toInt (by omega)]
  have eN : (F 12).toInt.toNat = N := by omega
  rcases told_m hN hcan with ⟨q, -⟩ | ⟨mi2, k2, e3, hmi2, -, -, -, er14, hM, hM2, -⟩
  · rcases q with q | q | q
    · exact absurd q (inN (by omega) hmk)
    · exact absurd q (by decide)
    · rw [le_I, zI] at q; omega
  obtain rfl : mi = mi2 := nI_inj (by omega) (by omega) e3
  rcases h with ⟨v, -⟩ | ⟨-, z47, h47, -, -, -, -, -, -, -, -, -, -, etr, er2⟩
  · rw [er14] at v; exact absurd v (by decide)
  rw [eN] at hM hM2 hG
  rw [ek, n12] at hc
  have hl : ∀ k : Nat, k < N → lo' k = NR F S mi (F (114 + 3 * mi + 2)) N k 0 := fun k hk => (hM k hk).2.2.2
  have hb : ∀ k : Nat, k < N → l' k = NR F S mi (F (114 + 3 * mi + 2)) N k 1 := fun k hk => (hM2 k (by omega) hk).2.1
  have hF : ∀ k : Nat, k < N → 1 ≤ (frN F S k).toInt := fun k hk => by have := (hN.2.2.1.2.2.1 k (by omega)).1; omega
  have ht : ∀ k : Nat, k < N → ∀ r : Int32, R_m_tailOfX (nI k) F S f' cf' r ↔ r = NR F S mi (F (114 + 3 * mi + 2)) N k 2 := fun k hk r => tail_m (by omega) (hN.2.2.2.1 k (by omega)) (hF k hk) (hM2 k (by omega) hk).2.2.1 (hM k hk).2.1
  have hg : ∀ k : Nat, k < N → ∀ r : Int32, R_m_isGoneX (nI k) F S f' r ↔ r = NR F S mi (F (114 + 3 * mi + 2)) N k 3 := fun k hk r => isG_m (by omega) (hN.2.2.2.1 k (by omega)) (hF k hk) (hM2 k (by omega) hk).2.2.1
  have h01 : ∀ k : Nat, k < N → NR F S mi (F (114 + 3 * mi + 2)) N k 3 = 0 ∨ NR F S mi (F (114 + 3 * mi + 2)) N k 3 = 1 := fun k hk => by
    show (if _ then (1 : Int32) else 0) = 0 ∨ (if _ then (1 : Int32) else 0) = 1
    split
    · exact Or.inr rfl
    · exact Or.inl rfl
  have fin : ∀ (j : Nat) (c x : Int32), j < 4 → c.toInt = j → R_n_sumX c (nI N) g16 x → x = fo (fun k a => a + NR F S mi (F (114 + 3 * mi + 2)) N k j) 0 N 0 := fun j c x hj hcj hx => by
    rw [sum_c hx hN8]
    exact fo_congr N 0 _ (fun k _ hk a => by
      rw [hG.tb (k := k) (c := c) (j := j) (by omega) hN8 hcj (by omega)]
      unfold COL
      rw [if_neg (by omega)])
  obtain ⟨j, rfl, hj⟩ := c03 w w3
  have d1 : (0 : Int32) = nI 0 := by decide
  have d2 : (1 : Int32) = nI 1 := by decide
  have d3 : (2 : Int32) = nI 2 := by decide
  have d4 : (3 : Int32) = nI 3 := by decide
  unfold R_c_tellX at hc
  match j, hj with
  | 0, _ =>
    rw [← d1] at hc h47
    simp (decide := true) only [↓reduceIte, goI, ne_eq, true_and, false_and, not_true_eq_false, not_false_eq_true, or_false, false_or, if_true, if_false] at hc
    obtain ⟨x, hx, t, y, ⟨ht2, hy⟩, et, a⟩ := hc
    exact ⟨by rw [a.2.2.2.2.2.2.2.2.2.2, hy, er2, fin 0 _ _ (by omega) (by decide) hx, sum_m0 n12 hN8 hl hb ht hg h01 h47], by rw [et, ht2, etr, g2]⟩
  | 1, _ =>
    rw [← d2] at hc h47
    simp (decide := true) only [↓reduceIte, goI, ne_eq, true_and, false_and, not_true_eq_false, not_false_eq_true, or_false, false_or, if_true, if_false] at hc
    obtain ⟨x, hx, t, y, ⟨ht2, hy⟩, et, a⟩ := hc
    exact ⟨by rw [a.2.2.2.2.2.2.2.2.2.2, hy, er2, fin 1 _ _ (by omega) (by decide) hx, sum_m1 n12 hN8 hl hb ht hg h01 h47], by rw [et, ht2, etr, g2]⟩
  | 2, _ =>
    rw [← d3] at hc h47
    simp (decide := true) only [↓reduceIte, goI, ne_eq, true_and, false_and, not_true_eq_false, not_false_eq_true, or_false, false_or, if_true, if_false] at hc
    obtain ⟨x, hx, t, y, ⟨ht2, hy⟩, et, a⟩ := hc
    exact ⟨by rw [a.2.2.2.2.2.2.2.2.2.2, hy, er2, fin 2 _ _ (by omega) (by decide) hx, sum_m2 n12 hN8 hl hb ht hg h01 h47], by rw [et, ht2, etr, g2]⟩
  | 3, _ =>
    rw [← d4] at hc h47
    simp (decide := true) only [↓reduceIte, goI, ne_eq, true_and, false_and, not_true_eq_false, not_false_eq_true, or_false, false_or, if_true, if_false] at hc
    obtain ⟨x, hx, t, y, ⟨ht2, hy⟩, et, a⟩ := hc
    exact ⟨by rw [a.2.2.2.2.2.2.2.2.2.2, hy, er2, fin 3 _ _ (by omega) (by decide) hx, sum_m3 n12 hN8 hl hb ht hg h01 h47], by rw [et, ht2, etr, g2]⟩
