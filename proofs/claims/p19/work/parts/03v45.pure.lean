set_option maxRecDepth 100000
set_option maxHeartbeats 4000000
theorem start_b {F S : Nat → Int32} {mi k : Nat} {sl ah : Int32} (f : IV (frN F S k) 2 2000) (i1 : IV ah (-3000) 3000) (q : ¬ frN F S k ≤ ah) : 0 ≤ (nstart F S mi sl k ah).toInt ∧ (nstart F S mi sl k ah).toInt < (frN F S k).toInt := by
  obtain ⟨f0, f1⟩ := f
  rw [IV] at i1
  rw [le_I] at q
  have hl : 0 ≤ (nlost ah).toInt ∧ (nlost ah).toInt < (frN F S k).toInt := by
    unfold nlost
    by_cases w : ah < 0
    · rw [if_pos w, zI]; omega
    · rw [if_neg w]; rw [lt_I, zI] at w; omega
  have e1 : (frN F S k - 1).toInt = (frN F S k).toInt - 1 := by rw [subI (by rw [oneI]; omega) (by rw [oneI]; omega), oneI]
  unfold nstart
  generalize bel F S mi (F (126 + k)) + sl = x
  by_cases w : frN F S k - 1 < x
  · rw [if_pos w]
    by_cases w2 : nlost ah < frN F S k - 1
    · rw [if_pos w2, e1]; omega
    · rw [if_neg w2]; exact hl
  · rw [if_neg w]
    rw [lt_I, e1] at w
    by_cases w2 : nlost ah < x
    · rw [if_pos w2]; rw [lt_I] at w2; omega
    · rw [if_neg w2]; exact hl
theorem change_b {F S : Nat → Int32} {mi N k : Nat} {sl ah : Int32} (f : IV (frN F S k) 2 2000) (h0 : IV (F 0) 0 50) (i1 : IV ah (-3000) 3000) (q : ¬ frN F S k ≤ ah) : 0 ≤ (nchange F S mi sl N k ah).toInt ∧ (nchange F S mi sl N k ah).toInt ≤ (frN F S k).toInt := by
  have hs := start_b (mi := mi) (sl := sl) f i1 q
  obtain ⟨f0, f1⟩ := f
  rw [IV] at h0
  have ea : (nstart F S mi sl k ah + F 0).toInt = (nstart F S mi sl k ah).toInt + (F 0).toInt := addI (by omega) (by omega)
  unfold nchange
  by_cases q2 : k + 1 < N
  · rw [if_pos q2]
    by_cases w : frN F S k < nstart F S mi sl k ah + F 0
    · rw [if_pos w]; omega
    · rw [if_neg w]; rw [lt_I, ea] at w; rw [ea]; omega
  · rw [if_neg q2]; omega
/-- what lost, black and tail of a place lie between -/
theorem NR_b {F S : Nat → Int32} {mi N k : Nat} {sl : Int32} (hB : NB F S N) (hk : k < N) : IV (NR F S mi sl N k 0) 0 2000 ∧ IV (NR F S mi sl N k 1) 0 3000 ∧ IV (NR F S mi sl N k 2) 0 2000 := by
  have i1 := NTK_b (mi := mi) (sl := sl) hB k (by omega)
  have f := hB.2.2.1 k hk
  have h0 : NR F S mi sl N k 0 = (if frN F S k ≤ (NTK F S mi sl N k).2.2 then frN F S k else nlost (NTK F S mi sl N k).2.2) := rfl
  have h1 : NR F S mi sl N k 1 = (if frN F S k ≤ (NTK F S mi sl N k).2.2 then 0 else nblack (NTK F S mi sl N k).2.2) := rfl
  have h2 : NR F S mi sl N k 2 = (if frN F S k ≤ (NTK F S mi sl N k).2.2 then 0 else frN F S k - nchange F S mi sl N k (NTK F S mi sl N k).2.2) := rfl
  rw [h0, h1, h2]
  by_cases q : frN F S k ≤ (NTK F S mi sl N k).2.2
  · rw [if_pos q, if_pos q, if_pos q]
    obtain ⟨f0, f1⟩ := f
    exact ⟨⟨by omega, by omega⟩, by decide, by decide⟩
  · have hc := change_b (mi := mi) (sl := sl) (N := N) f hB.1 i1 q
    rw [if_neg q, if_neg q, if_neg q]
    rw [le_I] at q
    generalize (NTK F S mi sl N k).2.2 = ah at i1 q hc
    obtain ⟨f0, f1⟩ := f
    rw [IV] at i1
    have e := negI (a := ah) (by omega)
    refine ⟨?_, ?_, ?_⟩
    · unfold nlost
      by_cases w : ah < 0
      · rw [if_pos w]; decide
      · rw [if_neg w]; rw [lt_I, zI] at w; rw [IV]; omega
    · unfold nblack
      by_cases w : -ah < 0
      · rw [if_pos w]; decide
      · rw [if_neg w]; rw [lt_I, e, zI] at w; rw [IV, e]; omega
    · rw [IV, subI (by omega) (by omega)]; omega
theorem lpO {A : Type} {L : Nat → A → Int32 → Prop} {κ : A → Prop} {st : Nat → A → A} {N lo : Nat} (h0 : ∀ a u, ¬ L 0 a u) (hE : ∀ n a, L (n + 1) a (nI N) ↔ κ a) (hS : ∀ n a m, lo ≤ m → m < N → (L (n + 1) a (nI m) ↔ L n (st m a) (nI (m + 1)))) : ∀ k m n a, lo ≤ m → m + k = N → (L n a (nI m) ↔ k < n ∧ κ (fo st m k a)) := by
  intro k
  induction k with
  | zero =>
    intro m n a hl hm
    obtain rfl : m = N := by omega
    cases n with
    | zero => exact ⟨fun h => absurd h (h0 _ _), fun h => absurd h.1 (Nat.lt_irrefl 0)⟩
    | succ n => exact (hE n a).trans ⟨fun h => ⟨Nat.succ_pos n, h⟩, fun h => h.2⟩
  | succ k ih =>
    intro m n a hl hm
    cases n with
    | zero => exact ⟨fun h => absurd h (h0 _ _), fun h => absurd h.1 (Nat.not_lt_zero _)⟩
    | succ n => exact (hS n a m hl (by omega)).trans ((ih (m + 1) n (st m a) (by omega) (by omega)).trans ⟨fun h => ⟨Nat.succ_lt_succ h.1, h.2⟩, fun h => ⟨Nat.lt_of_succ_lt_succ h.1, h.2⟩⟩)
/-- the worst change up to a place: which, how bad -/
def wbad (v : Nat → Nat → Int32) (k : Nat) : Int32 := v k 0 + v k 1 + v (k - 1) 2
def wst (v : Nat → Nat → Int32) (k : Nat) (a : Int32 × Int32) : Int32 × Int32 := if wbad v k ≤ a.2 then a else (nI k, wbad v k)
theorem nI_m1 {m : Nat} (h : 1 ≤ m) (h2 : m ≤ 1000) : nI m - 1 = nI (m - 1) := by
  have n1 : (1 : Int32) = nI 1 := by decide
  rw [n1, nI_d h h2]
theorem worst_c {g : Nat → Int32} {v : Nat → Nat → Int32} {N : Nat} {r : Int32} (hN : 1 ≤ N) (hN8 : N ≤ 8) (hv : ∀ k j : Nat, k < N → j < 3 → ∀ c : Int32, c.toInt = j → tbAt 8 10 g (nI k) c = v k j) (h : R_n_worstChangeX (nI N) g r) : r = (fo (wst v) 1 (N - 1) (0, -1)).1 := by
  unfold R_n_worstChangeX at h
  obtain ⟨t, h⟩ := h
  have n1 : (1 : Int32) = nI 1 := by decide
  have h2 : R_n_worstChangeX_L0 (nI N) g (fun u_1 : Int32 => r = u_1) t 0 (-1) (nI 1) := by rw [← n1]; exact h
  refine ((lpO (L := fun n (a : Int32 × Int32) u => R_n_worstChangeX_L0 (nI N) g (fun u_1 : Int32 => r = u_1) n a.1 a.2 u) (κ := fun a => r = a.1) (st := wst v) (N := N) (lo := 1) (fun a u h => h) (fun t a => ?_) (fun t a m hl hm => ?_) (N - 1) 1 t (0, -1) (by omega) (by omega)).mp h2).2
  · show R_n_worstChangeX_L0 (nI N) g (fun u_1 : Int32 => r = u_1) (t + 1) a.1 a.2 (nI N) ↔ r = a.1
    rw [R_n_worstChangeX_L0, goI, if_pos (Int32.le_refl _)]
  · show R_n_worstChangeX_L0 (nI N) g (fun u_1 : Int32 => r = u_1) (t + 1) a.1 a.2 (nI m) ↔ R_n_worstChangeX_L0 (nI N) g (fun u_1 : Int32 => r = u_1) t (wst v m a).1 (wst v m a).2 (nI (m + 1))
    have hm8 : m < 100000 := by omega
    rw [R_n_worstChangeX_L0, goI, if_neg (nI_nge (by omega) hm)]
    simp only [exists_eq_left, exists_eq_left', nI_m1 hl (show m ≤ 1000 by omega), hv m 0 hm (by omega) 0 (by decide), hv m 1 hm (by omega) 1 (by decide), hv (m - 1) 2 (by omega) (by omega) 2 (by decide), goI, ofI1, nI_s1 hm8]
    unfold wst wbad
    by_cases q : v m 0 + v m 1 + v (m - 1) 2 ≤ a.2
    · rw [if_pos q, if_pos q]
    · rw [if_neg q, if_neg q]
theorem worst_m {F S bl cf fr lo : Nat → Int32} {v : Nat → Nat → Int32} {N : Nat} {κ : Int32 → Prop} (n12 : F 12 = nI N) (hN : 1 ≤ N) (hN8 : N ≤ 8) (hl : ∀ k : Nat, k < N → lo k = v k 0) (hb : ∀ k : Nat, k < N → bl k = v k 1) (ht : ∀ k : Nat, k < N → ∀ r : Int32, R_m_tailOfX (nI k) F S fr cf r ↔ r = v k 2) (h : ∃ t : Nat, R_m_worstX_L0 F S bl cf fr lo κ t (-1) (-1) 1) : κ (fo (wst v) 1 (N - 1) (-1, -1)).1 := by
  obtain ⟨t, h⟩ := h
  have n1 : (1 : Int32) = nI 1 := by decide
  have h2 : R_m_worstX_L0 F S bl cf fr lo κ t (-1) (-1) (nI 1) := by rw [← n1]; exact h
  refine ((lpO (L := fun n (a : Int32 × Int32) u => R_m_worstX_L0 F S bl cf fr lo κ n a.1 a.2 u) (κ := fun a => κ a.1) (st := wst v) (N := N) (lo := 1) (fun a u h => h) (fun t a => ?_) (fun t a m hl1 hm => ?_) (N - 1) 1 t (-1, -1) (by omega) (by omega)).mp h2).2
  · show R_m_worstX_L0 F S bl cf fr lo κ (t + 1) a.1 a.2 (nI N) ↔ κ a.1
    rw [R_m_worstX_L0]
    simp only [exists_eq_left, tc_12, n12]
    rw [goI, if_pos (Int32.le_refl _)]
  · show R_m_worstX_L0 F S bl cf fr lo κ (t + 1) a.1 a.2 (nI m) ↔ R_m_worstX_L0 F S bl cf fr lo κ t (wst v m a).1 (wst v m a).2 (nI (m + 1))
    have hm8 : m < 100000 := by omega
    rw [R_m_worstX_L0]
    simp only [exists_eq_left, tc_12, n12]
    rw [goI, if_neg (nI_nge (by omega) hm)]
    simp only [exists_eq_left, exists_eq_left', nI_m1 hl1 (show m ≤ 1000 by omega), nI_c hm8, hl m hm, hb m hm, ht (m - 1) (by omega), goI, ofI1, nI_s1 hm8]
    unfold wst wbad
    by_cases q : a.2 < v m 0 + v m 1 + v (m - 1) 2
    · rw [if_pos q, if_neg (by rw [lt_I] at q; rw [le_I]; omega)]
    · rw [if_neg q, if_pos (by rw [lt_I] at q; rw [le_I]; omega)]
/-- where one is bad at all, it doesn't matter with which one begins -/
theorem wst_any {v : Nat → Nat → Int32} {k : Nat} (h : 0 ≤ (wbad v 1).toInt) {x y : Int32} : fo (wst v) 1 (k + 1) (x, -1) = fo (wst v) 1 (k + 1) (y, -1) := by
  have n1 : ¬ wbad v 1 ≤ (-1 : Int32) := by
    have e : (-1 : Int32).toInt = -1 := by decide
    rw [le_I, e]; omega
  show fo (wst v) 2 k (wst v 1 (x, -1)) = fo (wst v) 2 k (wst v 1 (y, -1))
  unfold wst
  rw [if_neg n1, if_neg n1]
theorem B_worst {F S : Nat → Int32} {hh r2 : Int32} {p0 xsnapped xmostSlip xslip xisDrawn xseed xtick xmotorTick xahead nrn yhmn zmd zmn zwn zpn tr2 xsnapped2 xmostSlip2 xslip2 xisDrawn2 xseed2 xtick2 xmotorTick2 xahead2 nrk r : Int32} {nrf yhnf yhmf zrf zmf zwf zpf nrg : Nat → Int32} {d_from d_begin d_motor d_change d_startFrame d_changeFrame d_lostAt d_blackAt d_slips d_begin2 d_blackAt2 d_change2 d_changeFrame2 d_from2 d_lostAt2 d_motor2 d_slips2 d_startFrame2 : Nat → Int32} {m_thrown2 m_trouble2 : Int32} (hC : CN F S yhnf yhmn yhmf zrf zmn zmf zpn zpf) (hN : MN F S hh) (hp2 : 0 < (F 11).toInt → 2 ≤ (F 12).toInt) (hc : R_c_worstX p0 xsnapped xmostSlip xslip xisDrawn xseed xtick xmotorTick xahead nrn nrf yhnf yhmn yhmf zmd zrf zmn zmf zwn zwf zpn zpf tr2 xsnapped2 xmostSlip2 xslip2 xisDrawn2 xseed2 xtick2 xmotorTick2 xahead2 nrg nrk r) (hm : R_m_worstX p0 hh F S d_from d_begin d_motor d_change d_startFrame d_changeFrame d_lostAt d_blackAt d_slips d_begin2 d_blackAt2 d_change2 d_changeFrame2 d_from2 d_lostAt2 d_motor2 d_slips2 d_startFrame2 m_thrown2 m_trouble2 r2) : r = r2 ∧ tr2 = m_trouble2 := by
  have b11 : (F 11).toInt ≤ 4 := hN.1.1.2
  have b12 : (F 12).toInt ≤ 8 := hN.1.2.2
  unfold R_c_worstX at hc
  unfold R_m_worstX R_m_goodX at hm
  obtain ⟨s2, s3, s4, s5, s6, s7, s8, s9, g10, k11, r12, hrun, hc⟩ := hc
  obtain ⟨u1, u2, ⟨g1, g2⟩, b', l', c', cf', f', lo', m', sl', st', r14, hcan, h⟩ := hm
  rcases night_c hC hrun with ⟨q, e⟩ | ⟨e, mi, rfl, hmi, hmk, ek, hG⟩
  · rcases hc with ⟨-, t16, r17, hf, et, a⟩ | ⟨w, -⟩
    case inr => exact absurd e w
    unfold R_c_refuseX at hf
    rcases told_m hN hcan with ⟨-, w⟩ | ⟨mi, k, rfl, hmi, hmk, -⟩
    · rcases h with ⟨w2, -⟩ | ⟨-, t20, r21, hno, -, -, -, -, -, -, -, -, -, -, etr, er2⟩
      · exact absurd w w2
      · unfold R_m_noX at hno
        exact ⟨by rw [a.2.2.2.2.2.2.2.2.2.2, hf.2, er2, hno.2], by rw [et, hf.1, etr, hno.1]⟩
    · exact absurd q (inN (by omega) hmk)
  rcases hc with ⟨w, -⟩ | ⟨-, r19, hend, t21, r22, hf, et, a⟩
  · rw [e] at w; exact absurd w (by decide)
  have hp0 := hp2 (by omega)
  rcases told_m hN hcan with ⟨q, -⟩ | ⟨mi2, k2, e3, hmi2, -, -, -, er14, hM, hM2, -⟩
  · rcases q with q | q | q
    · exact absurd q (inN (by omega) hmk)
    · exact absurd q (by decide)
    · rw [le_I, zI] at q; omega
  obtain rfl : mi = mi2 := nI_inj (by omega) (by omega) e3
  obtain ⟨N, n12, hN8⟩ := ivN 8 hN.1.2
  have tN : (F 12).toInt = N := by rw [n12, nI_toInt (by omega)]
  have eN : (F 12).toInt.toNat = N := by omega
  rcases h with ⟨-, h⟩ | ⟨w, -⟩
  case inr => rw [er14] at w; exact absurd w (by decide)
  unfold R_c_tellX at hf
  have hNB := hN.2.2.1
  rw [eN] at hM hM2 hG hNB
  rw [ek, n12] at hend
  have hF : ∀ k : Nat, k < N → 1 ≤ (frN F S k).toInt := fun k hk => by have := (hNB.2.2.1 k hk).1; omega
  have ht : ∀ k : Nat, k < N → ∀ r : Int32, R_m_tailOfX (nI k) F S f' cf' r ↔ r = NR F S mi (F (114 + 3 * mi + 2)) N k 2 := fun k hk r => tail_m (by omega) (hN.2.2.2.1 k (by omega)) (hF k hk) (hM2 k (by omega) hk).2.2.1 (hM k hk).2.1
  have hw := worst_m (v := fun k j => NR F S mi (F (114 + 3 * mi + 2)) N k j) n12 (by omega) hN8 (fun k hk => (hM k hk).2.2.2) (fun k hk => (hM2 k (by omega) hk).2.1) ht h
  obtain ⟨-, -, -, -, -, -, -, -, -, -, etr, er2⟩ := hw
  have hc2 := worst_c (v := fun k j => NR F S mi (F (114 + 3 * mi + 2)) N k j) (by omega) hN8 (fun k j hk hj c hcj => by
    rw [hG.tb (k := k) (c := c) (j := j) hk hN8 hcj (by omega)]
    unfold COL
    rw [if_neg (by omega)]) hend
  have b1 := (NR_b (mi := mi) (sl := F (114 + 3 * mi + 2)) hNB (show 1 < N by omega)).1
  have b2 := (NR_b (mi := mi) (sl := F (114 + 3 * mi + 2)) hNB (show 1 < N by omega)).2.1
  have b3 := (NR_b (mi := mi) (sl := F (114 + 3 * mi + 2)) hNB (show 0 < N by omega)).2.2
  have hw1 : 0 ≤ (wbad (fun k j => NR F S mi (F (114 + 3 * mi + 2)) N k j) 1).toInt := by
    show 0 ≤ (NR F S mi (F (114 + 3 * mi + 2)) N 1 0 + NR F S mi (F (114 + 3 * mi + 2)) N 1 1 + NR F S mi (F (114 + 3 * mi + 2)) N 0 2).toInt
    generalize NR F S mi (F (114 + 3 * mi + 2)) N 1 0 = x1 at b1 ⊢
    generalize NR F S mi (F (114 + 3 * mi + 2)) N 1 1 = x2 at b2 ⊢
    generalize NR F S mi (F (114 + 3 * mi + 2)) N 0 2 = x3 at b3 ⊢
    rw [IV] at b1 b2 b3
    have e1 : (x1 + x2).toInt = x1.toInt + x2.toInt := addI (by omega) (by omega)
    rw [addI (by omega) (by omega), e1]
    omega
  refine ⟨?_, by rw [et, hf.1, etr, g2]⟩
  obtain ⟨z, hz⟩ : ∃ z : Nat, N - 1 = z + 1 := ⟨N - 2, by omega⟩
  rw [hz] at er2 hc2
  rw [a.2.2.2.2.2.2.2.2.2.2, hf.2, hc2, er2, wst_any hw1 (x := 0) (y := -1)]
theorem LR_worstA {xtpd : Int32} {tpf yhnf : Nat → Int32} {yhtn : Int32} {yhtf : Nat → Int32} {yhjn : Int32} {yhjf : Nat → Int32} {yhmn : Int32} {yhmf : Nat → Int32} {yhbn : Int32} {yhbf : Nat → Int32} {yhsn : Int32} {yhsf : Nat → Int32} {yhcn : Int32} {yhcf : Nat → Int32} {zrn zmn zwn zpn zmd ztr : Int32} {zrf zmf zwf zpf : Nat → Int32} {kac knx kim : Int32} {cf : Nat → SC} {m_taped : Int32} {d_tape d_r d_st d_undone d_kept : Nat → Int32} {m_undos m_images m_hasHouse : Int32} {a1 r r2 : Int32} (h : LR xtpd tpf yhnf yhtn yhtf yhjn yhjf yhmn yhmf yhbn yhbf yhsn yhsf yhcn yhcf zrn zmn zwn zpn zmd ztr zrf zmf zwf zpf kac knx kim cf m_taped d_tape d_r d_st d_undone d_kept m_undos m_images m_hasHouse) (hx : ∃ xsnapped : Int32, ∃ xmostSlip : Int32, ∃ xslip : Int32, ∃ xisDrawn : Int32, ∃ xseed : Int32, ∃ xtick : Int32, ∃ xmotorTick : Int32, ∃ xahead : Int32, ∃ nrn : Int32, ∃ nrf : Nat → Int32, ∃ tr2 : Int32, ∃ xsnapped2 : Int32, ∃ xmostSlip2 : Int32, ∃ xslip2 : Int32, ∃ xisDrawn2 : Int32, ∃ xseed2 : Int32, ∃ xtick2 : Int32, ∃ xmotorTick2 : Int32, ∃ xahead2 : Int32, ∃ nrg : Nat → Int32, ∃ nrk : Int32, R_c_worstX a1 xsnapped xmostSlip xslip xisDrawn xseed xtick xmotorTick xahead nrn nrf yhnf yhmn yhmf zmd zrf zmn zmf zwn zwf zpn zpf tr2 xsnapped2 xmostSlip2 xslip2 xisDrawn2 xseed2 xtick2 xmotorTick2 xahead2 nrg nrk r) (hm : ∃ d_from : Nat → Int32, ∃ d_begin : Nat → Int32, ∃ d_motor : Nat → Int32, ∃ d_change : Nat → Int32, ∃ d_startFrame : Nat → Int32, ∃ d_changeFrame : Nat → Int32, ∃ d_lostAt : Nat → Int32, ∃ d_blackAt : Nat → Int32, ∃ d_slips : Nat → Int32, ∃ d_begin2 : Nat → Int32, ∃ d_blackAt2 : Nat → Int32, ∃ d_change2 : Nat → Int32, ∃ d_changeFrame2 : Nat → Int32, ∃ d_from2 : Nat → Int32, ∃ d_lostAt2 : Nat → Int32, ∃ d_motor2 : Nat → Int32, ∃ d_slips2 : Nat → Int32, ∃ d_startFrame2 : Nat → Int32, ∃ m_thrown2 : Int32, ∃ m_trouble2 : Int32, R_m_worstX a1 m_hasHouse d_r d_st d_from d_begin d_motor d_change d_startFrame d_changeFrame d_lostAt d_blackAt d_slips d_begin2 d_blackAt2 d_change2 d_changeFrame2 d_from2 d_lostAt2 d_motor2 d_slips2 d_startFrame2 m_thrown2 m_trouble2 r2) : r = r2 := by
  obtain ⟨_, _, _, _, _, _, _, _, _, _, _, _, _, _, _, _, _, _, _, _, _, hx⟩ := hx
  obtain ⟨_, _, _, _, _, _, _, _, _, _, _, _, _, _, _, _, _, _, _, _, hm⟩ := hm
  exact (B_worst (LR_CN h) (LR_MN h) (fun w => by
    obtain ⟨-, ⟨hF, -, -, h01, h0, hp⟩, -, hB, hV, hS⟩ := h
    have k0 : 0 < (d_r 12).toInt := by
      by_cases q : m_hasHouse = 0
      · have e := (hS.2.2.2.2.2 q).1 11 (by omega)
        rw [e, zI] at w; omega
      · exact hp q
    rcases hV.2.2.1.2.2.2 with t | t
    · omega
    · exact t) hx hm).1
