set_option maxRecDepth 100000
set_option maxHeartbeats 4000000
/-- what a night reads of the class, beside the reference's rows -/
def CN (F S yhnf : Nat → Int32) (yhmn : Int32) (yhmf zrf : Nat → Int32) (zmn : Int32) (zmf : Nat → Int32) (zpn : Int32) (zpf : Nat → Int32) : Prop :=
  (FIv F ∧ IV (F 12) 0 8) ∧ (yhnf 0 = F 0 ∧ yhnf 1 = F 1) ∧ (yhmn = F 11 ∧ zmn = F 8 ∧ zpn = F 12) ∧
  (∀ k : Nat, (k : Int) < (F 11).toInt → yhmf (3 * k) = F (114 + 3 * k) ∧ yhmf (3 * k + 2) = F (114 + 3 * k + 2) ∧ (F (114 + 3 * k) = 3 → yhmf (3 * k + 1) = F (114 + 3 * k + 1))) ∧
  (∀ k : Nat, (k : Int) < (F 6).toInt → zrf (3 * k) = S k ∧ zrf (3 * k + 1) = S (8 + k) ∧ zrf (3 * k + 2) = F (16 + 3 * k + 2)) ∧
  (∀ k : Nat, (k : Int) < (F 8).toInt → zmf (3 * k) = F (44 + 3 * k) ∧ zmf (3 * k + 1) = S (16 + k) ∧ zmf (3 * k + 2) = F (44 + 3 * k + 2)) ∧
  (∀ k : Nat, (k : Int) < (F 12).toInt → zpf (2 * k) = F (126 + k) ∧ zpf (2 * k + 1) = S (34 + k)) ∧
  (∀ k : Nat, (k : Int) < (F 12).toInt → 0 ≤ (F (126 + k)).toInt ∧ (F (126 + k)).toInt < (F 6).toInt)
theorem reel_c {zpf : Nat → Int32} {v r : Int32} {m : Nat} (e : zpf (2 * m) = v) (hm : m < 8) (h : R_s_reelAtX (nI m) zpf r) : r = v := by
  unfold R_s_reelAtX at h
  simp only [exists_eq_left] at h
  rw [h, tbN (R := 8) (V := 2) (c := 0) (a := 8) (b := 2) (j := 0) (by decide) (by decide) (by omega) (by omega) (by decide) hm (by omega), Nat.add_zero, e]
theorem meet_L {F S yhmf zrf zmf zpf : Nat → Int32} {mi N N8 : Nat} {κ : (Nat → Int32) → Prop} (n8 : F 8 = nI N8) (hN8 : N8 ≤ 12) (hmi : mi < 4) (hk : (mi : Int) < (F 11).toInt) (b6 : (F 6).toInt ≤ 8)
    (hM : ∀ k : Nat, (k : Int) < (F 11).toInt → yhmf (3 * k) = F (114 + 3 * k) ∧ yhmf (3 * k + 2) = F (114 + 3 * k + 2) ∧ (F (114 + 3 * k) = 3 → yhmf (3 * k + 1) = F (114 + 3 * k + 1)))
    (h1 : ∀ k : Nat, (k : Int) < (F 6).toInt → zrf (3 * k) = S k ∧ zrf (3 * k + 1) = S (8 + k) ∧ zrf (3 * k + 2) = F (16 + 3 * k + 2))
    (h2 : ∀ k : Nat, (k : Int) < (F 8).toInt → zmf (3 * k) = F (44 + 3 * k) ∧ zmf (3 * k + 1) = S (16 + k) ∧ zmf (3 * k + 2) = F (44 + 3 * k + 2)) (hN : N ≤ 8)
    (hr : ∀ k : Nat, k < N → 0 ≤ (F (126 + k)).toInt ∧ (F (126 + k)).toInt < (F 6).toInt) (h4 : ∀ k : Nat, k < N → zpf (2 * k) = F (126 + k) ∧ zpf (2 * k + 1) = S (34 + k)) :
    ∀ (t : Nat) (f : Nat → Int32) (m : Nat), m ≤ N → (∀ k : Nat, k < m → f (10 * k + 9) = bel F S mi (F (126 + k))) → R_n_meetX_L0 (nI mi) yhmf zrf (nI N8) zmf (nI N) zpf κ t f (nI m) → ∃ g : Nat → Int32, κ g ∧ ∀ k : Nat, k < N → g (10 * k + 9) = bel F S mi (F (126 + k)) := by
  intro t
  induction t with
  | zero => intro f m _ _ h; exact h.elim
  | succ t ih =>
    intro f m hm hI h
    rw [R_n_meetX_L0] at h
    rcases h with ⟨q, h⟩ | ⟨q, r15, hr15, r17, hr17, fa, hfa, z, hz, h⟩
    · rw [nI_gE (by omega) (by omega)] at q
      obtain rfl : m = N := by omega
      exact ⟨f, h, hI⟩
    · rw [nI_gE (by omega) (by omega)] at q
      have hm2 : m < N := by omega
      have e15 := reel_c (h4 m hm2).1 (by omega) hr15
      obtain ⟨g1, g2⟩ := hr m hm2
      obtain ⟨ρ, eρ, hρ⟩ := nI_oF g1
      rw [e15, eρ] at hr17
      have e17 := bel_c n8 hN8 hmi hk (ρ := ρ) (by omega) b6 hM h1 h2 hr17
      rw [← eρ] at e17
      rw [puN (c := 9) (j := 9) (by decide) (by omega) (by omega)] at hfa
      rw [nI_s (by omega)] at hz
      subst hz
      refine ih fa (m + 1) (by omega) (fun k hk2 => ?_) h
      by_cases e : k = m
      · subst e
        rw [hfa, upd_at, e17]
      · rw [hfa, upd_ne (by omega)]
        exact hI k (by omega)
theorem meet_0 {F S yhmf zrf zmf zpf : Nat → Int32} {mi N N8 t : Nat} {f : Nat → Int32} {κ : (Nat → Int32) → Prop} (n8 : F 8 = nI N8) (hN8 : N8 ≤ 12) (hmi : mi < 4) (hk : (mi : Int) < (F 11).toInt) (b6 : (F 6).toInt ≤ 8)
    (hM : ∀ k : Nat, (k : Int) < (F 11).toInt → yhmf (3 * k) = F (114 + 3 * k) ∧ yhmf (3 * k + 2) = F (114 + 3 * k + 2) ∧ (F (114 + 3 * k) = 3 → yhmf (3 * k + 1) = F (114 + 3 * k + 1)))
    (h1 : ∀ k : Nat, (k : Int) < (F 6).toInt → zrf (3 * k) = S k ∧ zrf (3 * k + 1) = S (8 + k) ∧ zrf (3 * k + 2) = F (16 + 3 * k + 2))
    (h2 : ∀ k : Nat, (k : Int) < (F 8).toInt → zmf (3 * k) = F (44 + 3 * k) ∧ zmf (3 * k + 1) = S (16 + k) ∧ zmf (3 * k + 2) = F (44 + 3 * k + 2)) (hN : N ≤ 8)
    (hr : ∀ k : Nat, k < N → 0 ≤ (F (126 + k)).toInt ∧ (F (126 + k)).toInt < (F 6).toInt) (h4 : ∀ k : Nat, k < N → zpf (2 * k) = F (126 + k) ∧ zpf (2 * k + 1) = S (34 + k))
    (h : R_n_meetX_L0 (nI mi) yhmf zrf (nI N8) zmf (nI N) zpf κ t f 0) : ∃ g : Nat → Int32, κ g ∧ ∀ k : Nat, k < N → g (10 * k + 9) = bel F S mi (F (126 + k)) :=
  meet_L n8 hN8 hmi hk b6 hM h1 h2 hN hr h4 t f 0 (by first | decide | omega) (fun k hk => absurd hk (by omega)) (by rw [nI_0]; exact h)
theorem run_c0 {F S yhnf zrf zpf zwf f : Nat → Int32} {mi N t : Nat} {ms sl zmd zwn u5 : Int32} {κ : Int32 → Int32 → Int32 → Int32 → Int32 → (Nat → Int32) → Prop} (hN8 : N ≤ 8) (e0 : yhnf 0 = F 0) (e1 : yhnf 1 = F 1) (b6 : (F 6).toInt ≤ 8) (hr : ∀ k : Nat, k < N → 0 ≤ (F (126 + k)).toInt ∧ (F (126 + k)).toInt < (F 6).toInt) (h1 : ∀ k : Nat, (k : Int) < (F 6).toInt → zrf (3 * k) = S k ∧ zrf (3 * k + 1) = S (8 + k) ∧ zrf (3 * k + 2) = F (16 + 3 * k + 2)) (h4 : ∀ k : Nat, k < N → zpf (2 * k) = F (126 + k) ∧ zpf (2 * k + 1) = S (34 + k))
    (h9 : ∀ k : Nat, k < N → f (10 * k + 9) = bel F S mi (F (126 + k))) (h : R_n_runX_L0 ms sl 0 (nI N) yhnf zmd zrf zpf zwn zwf κ t f 0 0 u5 0 0 0) : ∃ g : Nat → Int32, κ 0 u5 (NTK F S mi sl N N).1 (NTK F S mi sl N N).2.1 (NTK F S mi sl N N).2.2 g ∧ (∀ k c : Nat, k < N → c < 9 → g (10 * k + c) = NR F S mi sl N k c) ∧ (∀ k : Nat, k < N → g (10 * k + 9) = bel F S mi (F (126 + k))) :=
  run_c_L hN8 e0 e1 b6 hr h1 h4 t f 0 0 u5 0 0 0 (by first | decide | omega) (fun k c hk => absurd hk (by omega)) h9 rfl (by rw [nI_0]; exact h)
/-- the ten columns of a told night -/
def COL (F S : Nat → Int32) (mi N k j : Nat) : Int32 := if j = 9 then bel F S mi (F (126 + k)) else NR F S mi (F (114 + 3 * mi + 2)) N k j
def NG (F S : Nat → Int32) (mi N : Nat) (g : Nat → Int32) : Prop := ∀ k j : Nat, k < N → j < 10 → g (10 * k + j) = COL F S mi N k j
theorem inN {n : Int32} {m : Nat} (hm : m ≤ 1000) (h : (m : Int) < n.toInt) : ¬ (nI m < 0 ∨ n ≤ nI m) := by
  rw [lt_I, le_I, nI_toInt (by omega), zI]; omega
theorem night_c {F S : Nat → Int32} {p0 xsnapped xmostSlip xslip xisDrawn xseed xtick xmotorTick xahead nrn yhmn zmd zmn zwn zpn xsnapped2 xmostSlip2 xslip2 xisDrawn2 xseed2 xtick2 xmotorTick2 xahead2 nrk r : Int32} {nrf yhnf yhmf zrf zmf zwf zpf nrg : Nat → Int32} (hC : CN F S yhnf yhmn yhmf zrf zmn zmf zpn zpf) (h : R_c_runNightX p0 xsnapped xmostSlip xslip xisDrawn xseed xtick xmotorTick xahead nrn nrf yhnf yhmn yhmf zmd zrf zmn zmf zwn zwf zpn zpf xsnapped2 xmostSlip2 xslip2 xisDrawn2 xseed2 xtick2 xmotorTick2 xahead2 nrg nrk r) : ((p0 < 0 ∨ F 11 ≤ p0) ∧ r = 0) ∨ (r = 1 ∧ ∃ mi : Nat, p0 = nI mi ∧ mi < 4 ∧ (mi : Int) < (F 11).toInt ∧ nrk = F 12 ∧ NG F S mi (F 12).toInt.toNat nrg) := by
  obtain ⟨⟨hB, i12⟩, ⟨e0, e1⟩, ⟨e11, e8, e12⟩, hM, h1, h2, h4, hr⟩ := hC
  subst e11 e8 e12
  obtain ⟨b6, -, b8, b9, b10, b11, -, -⟩ := hB
  obtain ⟨N8, n8, hN8⟩ := ivN 12 b8
  obtain ⟨N11, n11, hN11⟩ := ivN 4 b11
  obtain ⟨N, n12, hN⟩ := ivN 8 i12
  have tN : (F 12).toInt = N := by rw [n12, nI_toInt (by omega)]
  have eN : (F 12).toInt.toNat = N := by omega
  unfold R_c_runNightX at h
  obtain ⟨r1, hr1, h⟩ := h
  by_cases q : p0 < 0 ∨ F 11 ≤ p0
  · rw [if_pos q] at hr1
    rcases h with ⟨w, -⟩ | ⟨-, a⟩
    · exact absurd hr1 w
    · exact Or.inl ⟨q, a.2.2.2.2.2.2.2.2.2.2⟩
  · rw [if_neg q] at hr1
    rcases h with ⟨-, ms, g5, k6, hmeet, r10, hr10, dr, sl, hslip, sn, sd, tk, mt, ah, g21, hrun, a⟩ | ⟨w, -⟩
    case inr => rw [hr1] at w; exact absurd w (by decide)
    obtain ⟨mi, rfl, hmi, hmk⟩ := of_C n11 (by omega) q
    have hr' : ∀ k : Nat, k < N → 0 ≤ (F (126 + k)).toInt ∧ (F (126 + k)).toInt < (F 6).toInt := fun k hk => hr k (by omega)
    have h4' : ∀ k : Nat, k < N → zpf (2 * k) = F (126 + k) ∧ zpf (2 * k + 1) = S (34 + k) := fun k hk => h4 k (by omega)
    unfold R_n_meetX at hmeet
    obtain ⟨r1', hr1', z3, hz3, t, hL⟩ := hmeet
    rw [n8, n12] at hL
    obtain ⟨g, hg, h9⟩ := meet_0 n8 hN8 (by omega) hmk b6.2 hM h1 h2 hN hr' h4' hL
    obtain ⟨-, eg, ek⟩ := hg
    subst eg ek
    unfold R_n_slipByX at hslip
    obtain ⟨ed, es⟩ := hslip
    have e10 : r10 = F (114 + 3 * mi + 2) := by rw [hr10, tbN (R := 4) (V := 3) (c := 2) (a := 4) (b := 3) (j := 2) (by decide) (by decide) (by omega) (by omega) (by decide) (by omega) (by omega), (hM mi hmk).2.1]
    unfold R_n_runX at hrun
    obtain ⟨t2, hL2⟩ := hrun
    rw [ed, es, e10] at hL2
    obtain ⟨g2, hg2, hI, h9'⟩ := run_c0 hN e0 e1 b6.2 hr' h1 h4' h9 hL2
    obtain ⟨-, -, -, -, -, eg2⟩ := hg2
    obtain ⟨-, -, -, -, -, -, -, -, ag, ak, ar⟩ := a
    refine Or.inr ⟨ar, mi, rfl, by omega, hmk, by rw [ak, n12], fun k j hk hj => ?_⟩
    rw [eN] at hk ⊢
    rw [ag, eg2]
    unfold COL
    by_cases e : j = 9
    · rw [if_pos e, e]; exact h9' k hk
    · rw [if_neg e]; exact hI k j hk (by omega)
theorem of_c {F S : Nat → Int32} {p0 p1 p2 xsnapped xmostSlip xslip xisDrawn xseed xtick xmotorTick xahead nrn yhmn zmd zmn zwn zpn tr2 xsnapped2 xmostSlip2 xslip2 xisDrawn2 xseed2 xtick2 xmotorTick2 xahead2 nrk r : Int32} {nrf yhnf yhmf zrf zmf zwf zpf nrg : Nat → Int32} {j : Nat} (hC : CN F S yhnf yhmn yhmf zrf zmn zmf zpn zpf) (hj : p2.toInt = j) (hj10 : j < 10) (h : R_c_ofNightX p0 p1 p2 xsnapped xmostSlip xslip xisDrawn xseed xtick xmotorTick xahead nrn nrf yhnf yhmn yhmf zmd zrf zmn zmf zwn zwf zpn zpf tr2 xsnapped2 xmostSlip2 xslip2 xisDrawn2 xseed2 xtick2 xmotorTick2 xahead2 nrg nrk r) : (((p1 < 0 ∨ F 12 ≤ p1) ∨ (p0 < 0 ∨ F 11 ≤ p0)) ∧ tr2 = 1 ∧ r = -1) ∨ (∃ mi k : Nat, p0 = nI mi ∧ mi < 4 ∧ (mi : Int) < (F 11).toInt ∧ p1 = nI k ∧ (k : Int) < (F 12).toInt ∧ tr2 = 0 ∧ r = COL F S mi (F 12).toInt.toNat k j) := by
  have hC' := hC
  obtain ⟨⟨hB, i12⟩, -, ⟨e11, e8, e12⟩, -⟩ := hC'
  unfold R_c_ofNightX at h
  obtain ⟨r1, hr1, h⟩ := h
  rw [e12] at hr1
  by_cases q : p1 < 0 ∨ F 12 ≤ p1
  · rw [if_pos q] at hr1
    rcases h with ⟨-, t5, r6, hf, et, a⟩ | ⟨w, -⟩
    · unfold R_c_refuseX at hf
      exact Or.inl ⟨Or.inl q, et.trans hf.1, a.2.2.2.2.2.2.2.2.2.2.trans hf.2⟩
    · exact absurd hr1 w
  · rw [if_neg q] at hr1
    rcases h with ⟨w, -⟩ | ⟨-, s8, s9, s10, s11, s12, s13, s14, s15, g16, k17, r18, hrun, h⟩
    · rw [hr1] at w; exact absurd w (by decide)
    obtain ⟨N, n12, hN⟩ := ivN 8 i12
    obtain ⟨k, rfl, hk, hk2⟩ := of_C n12 (by omega) q
    rcases night_c hC hrun with ⟨u1, u2⟩ | ⟨u2, mi, rfl, hmi, hmk, ek, hG⟩
    · rcases h with ⟨w, -⟩ | ⟨-, t28, r29, hf, et, a⟩
      · exact absurd u2 w
      · unfold R_c_refuseX at hf
        exact Or.inl ⟨Or.inr u1, et.trans hf.1, a.2.2.2.2.2.2.2.2.2.2.trans hf.2⟩
    · rcases h with ⟨-, r22, hr22, t24, r25, hf, et, a⟩ | ⟨w, -⟩
      · unfold R_c_tellX at hf
        refine Or.inr ⟨mi, k, rfl, hmi, hmk, rfl, hk2, et.trans hf.1, ?_⟩
        rw [a.2.2.2.2.2.2.2.2.2.2, hf.2, hr22, tbN (R := 8) (V := 10) (a := 8) (b := 10) (by decide) (by decide) (by omega) (by omega) hj (by omega) hj10]
        exact hG k j (by omega) hj10
      · rw [u2] at w; exact absurd w (by decide)
/-- what a told night reads of the reference -/
def MN (F S : Nat → Int32) (hh : Int32) : Prop :=
  (IV (F 11) 0 4 ∧ IV (F 12) 0 8) ∧ (hh = 0 → F 11 = 0 ∧ F 12 = 0) ∧ NB F S (F 12).toInt.toNat ∧ (∀ k : Nat, (k : Int) < (F 12).toInt → 0 ≤ (F (126 + k)).toInt ∧ (F (126 + k)).toInt ≤ 8) ∧
  (∀ mi k : Nat, (mi : Int) < (F 11).toInt → (k : Int) < (F 12).toInt → ∀ r : Int32, R_m_believesOfX (nI mi) (nI k) F S r → r = bel F S mi (F (126 + k)))
theorem isManX {F : Nat → Int32} {p hh r : Int32} (hb : IV (F 11) 0 4) (h0 : hh = 0 → F 11 = 0) (h : R_m_isManX p hh F r) : r = (if p < 0 ∨ F 11 ≤ p then 0 else 1) := by
  unfold R_m_isManX at h
  rw [tc_11] at h
  exact isAny (z := 0) (iv_w hb (by decide) (by decide)) h0 h
theorem told_L {F : Nat → Int32} {mi : Nat} {κ : (Nat → Int32) → Prop} (hmi : mi ≤ 100) : ∀ (t : Nat) (f : Nat → Int32) (m : Nat), m ≤ 8 → (∀ k : Nat, k < m → f k = F (114 + 3 * mi + 2)) → R_m_layToldX_L0 (nI mi) F κ t f (nI m) → ∃ g : Nat → Int32, κ g ∧ ∀ k : Nat, k < 8 → g k = F (114 + 3 * mi + 2) := by
  intro t
  induction t with
  | zero => intro f m _ _ h; exact h.elim
  | succ t ih =>
    intro f m hm hI h
    have e8 : (8 : Int32) = nI 8 := by decide
    rw [R_m_layToldX_L0, e8] at h
    rcases h with ⟨q, h⟩ | ⟨q, z22, h22, z25, h25, z28, h28, z31, h31, z35, h35, h⟩
    · rw [nI_gE (by omega) (by omega)] at q
      obtain rfl : m = 8 := by omega
      exact ⟨f, h, hI⟩
    · rw [nI_gE (by omega) (by omega)] at q
      rw [h28, h25, h22, ix_114_3_2 (by omega)] at h31
      rw [nI_s (by omega)] at h35
      subst h35
      refine ih _ (m + 1) (by omega) (fun k hk => ?_) h
      rw [nI_c (by omega)]
      by_cases e : k = m
      · subst e
        rw [upd_at, h31]
      · rw [upd_ne e]
        exact hI k (by omega)
theorem told_0 {F : Nat → Int32} {mi t : Nat} {f : Nat → Int32} {κ : (Nat → Int32) → Prop} (hmi : mi ≤ 100) (h : R_m_layToldX_L0 (nI mi) F κ t f 0) : ∃ g : Nat → Int32, κ g ∧ ∀ k : Nat, k < 8 → g k = F (114 + 3 * mi + 2) :=
  told_L hmi t f 0 (by first | decide | omega) (fun k hk => absurd hk (by omega)) (by rw [nI_0]; exact h)
theorem NM_0 {F S be bl ch cf fr lo mo st : Nat → Int32} {mi N : Nat} {sl : Int32} : NM F S mi sl N 0 (upd be 0 0) (upd bl 0 0) ch cf (upd fr 0 0) (upd lo 0 0) (upd mo 0 0) st := by
  have n0 : NTK F S mi sl N 0 = (0, 0, 0) := rfl
  refine ⟨fun k hk => absurd hk (by omega), fun k hk _ => ?_, fun _ => ?_⟩
  · obtain rfl : k = 0 := by omega
    have c6 : NR F S mi sl N 0 6 = 0 := by
      show (if frN F S 0 ≤ 0 then (0 : Int32) else 0 + nblack 0) = 0
      split <;> decide
    have c1 : NR F S mi sl N 0 1 = 0 := by
      show (if frN F S 0 ≤ 0 then (0 : Int32) else nblack 0) = 0
      split <;> decide
    have c8 : NR F S mi sl N 0 8 = 0 := rfl
    rw [upd_at, upd_at, upd_at, upd_at, c6, c1, c8, n0]
    exact ⟨rfl, rfl, by decide, rfl⟩
  · rw [upd_at, n0]
    decide
theorem lay_L0 {F S sp : Nat → Int32} {mi N t : Nat} {sl : Int32} {be bl ch cf fr lo mo st : Nat → Int32} {κ : (Nat → Int32) → (Nat → Int32) → (Nat → Int32) → (Nat → Int32) → (Nat → Int32) → (Nat → Int32) → (Nat → Int32) → (Nat → Int32) → Prop} (hB : NB F S N) (h1N : 1 ≤ N) (hN : N ≤ 8) (hr : ∀ k : Nat, k < N → 0 ≤ (F (126 + k)).toInt ∧ (F (126 + k)).toInt ≤ 8) (hb : ∀ k : Nat, k < N → ∀ r : Int32, R_m_believesOfX (nI mi) (nI k) F S r → r = bel F S mi (F (126 + k))) (hs : ∀ k : Nat, k < N → sp k = sl) (hM : NM F S mi sl N 0 be bl ch cf fr lo mo st) (h : R_m_layNightX_L0 (nI mi) F S sp (nI N - 1) κ t be bl ch cf fr lo mo st 0) : ∃ be2 bl2 ch2 cf2 fr2 lo2 mo2 st2 : Nat → Int32, κ be2 bl2 ch2 cf2 fr2 lo2 mo2 st2 ∧ NM F S mi sl N N be2 bl2 ch2 cf2 fr2 lo2 mo2 st2 :=
  lay_L hB h1N hN hr hb hs t be bl ch cf fr lo mo st 0 (by first | decide | omega) hM (by rw [nI_0]; exact h)
theorem lay_0 {F S : Nat → Int32} {mi N : Nat} {sl : Int32} {d_from d_begin d_motor d_change d_startFrame d_changeFrame d_lostAt d_blackAt d_slips d_begin2 d_blackAt2 d_change2 d_changeFrame2 d_from2 d_lostAt2 d_motor2 d_startFrame2 : Nat → Int32} (hB : NB F S N) (h12 : F 12 = nI N) (h1N : 1 ≤ N) (hN : N ≤ 8) (hr : ∀ k : Nat, k < N → 0 ≤ (F (126 + k)).toInt ∧ (F (126 + k)).toInt ≤ 8) (hb : ∀ k : Nat, k < N → ∀ r : Int32, R_m_believesOfX (nI mi) (nI k) F S r → r = bel F S mi (F (126 + k))) (hs : ∀ k : Nat, k < N → d_slips k = sl) (h : R_m_layNightX (nI mi) F S d_from d_begin d_motor d_change d_startFrame d_changeFrame d_lostAt d_blackAt d_slips d_begin2 d_blackAt2 d_change2 d_changeFrame2 d_from2 d_lostAt2 d_motor2 d_startFrame2) : NM F S mi sl N N d_begin2 d_blackAt2 d_change2 d_changeFrame2 d_from2 d_lostAt2 d_motor2 d_startFrame2 := by
  unfold R_m_layNightX at h
  obtain ⟨z1, hz1, z4, hz4, t, hL⟩ := h
  rw [tc_12, h12] at hz1
  rw [hz4, hz1, tc_0] at hL
  obtain ⟨b', l', c', cf', f', lo', m', s', hk, hM⟩ := lay_L0 hB h1N hN hr hb hs NM_0 hL
  obtain ⟨rfl, rfl, rfl, rfl, rfl, rfl, rfl, rfl⟩ := hk
  exact hM
theorem told_m {F S : Nat → Int32} {hh : Int32} {p0 p1 r : Int32} {d_from d_begin d_motor d_change d_startFrame d_changeFrame d_lostAt d_blackAt d_slips d_begin2 d_blackAt2 d_change2 d_changeFrame2 d_from2 d_lostAt2 d_motor2 d_slips2 d_startFrame2 : Nat → Int32} (hm : MN F S hh) (h : R_m_canTellX p0 p1 hh F S d_from d_begin d_motor d_change d_startFrame d_changeFrame d_lostAt d_blackAt d_slips d_begin2 d_blackAt2 d_change2 d_changeFrame2 d_from2 d_lostAt2 d_motor2 d_slips2 d_startFrame2 r) : (((p0 < 0 ∨ F 11 ≤ p0) ∨ (p1 < 0 ∨ F 12 ≤ p1)) ∧ r = 0) ∨ (∃ mi k : Nat, p0 = nI mi ∧ mi < 4 ∧ (mi : Int) < (F 11).toInt ∧ p1 = nI k ∧ (k : Int) < (F 12).toInt ∧ r = 1 ∧ NM F S mi (F (114 + 3 * mi + 2)) (F 12).toInt.toNat (F 12).toInt.toNat d_begin2 d_blackAt2 d_change2 d_changeFrame2 d_from2 d_lostAt2 d_motor2 d_startFrame2) := by
  obtain ⟨⟨i11, i12⟩, h0, hB, hr, hb⟩ := hm
  unfold R_m_canTellX at h
  obtain ⟨r1, hr1, h⟩ := h
  have hr1 := isManX i11 (fun q => (h0 q).1) hr1
  by_cases q : p0 < 0 ∨ F 11 ≤ p0
  · rw [if_pos q] at hr1
    rcases h with ⟨-, a⟩ | ⟨w, -⟩
    · exact Or.inl ⟨Or.inl q, a.2.2.2.2.2.2.2.2.2⟩
    · exact absurd hr1 w
  · rw [if_neg q] at hr1
    rcases h with ⟨w, -⟩ | ⟨-, r10, hr10, h⟩
    · rw [hr1] at w; exact absurd w (by decide)
    have hr10 := isPlaceX i12 (fun v => (h0 v).2) hr10
    by_cases q2 : p1 < 0 ∨ F 12 ≤ p1
    · rw [if_pos q2] at hr10
      rcases h with ⟨w, -⟩ | ⟨-, a⟩
      · exact absurd hr10 w
      · exact Or.inl ⟨Or.inr q2, a.2.2.2.2.2.2.2.2.2⟩
    · rw [if_neg q2] at hr10
      rcases h with ⟨-, b', l', c', cf', f', lo', m', s', st', ht, a⟩ | ⟨w, -⟩
      case inr => rw [hr10] at w; exact absurd w (by decide)
      obtain ⟨rfl, rfl, rfl, rfl, rfl, rfl, rfl, rfl, rfl, er⟩ := a
      obtain ⟨N11, n11, hN11⟩ := ivN 4 i11
      obtain ⟨N, n12, hN⟩ := ivN 8 i12
      have tN : (F 12).toInt = N := by rw [n12, nI_toInt (by omega)]
      have eN : (F 12).toInt.toNat = N := by omega
      obtain ⟨mi, rfl, hmi, hmk⟩ := of_C n11 (by omega) q
      obtain ⟨k, rfl, hk, hk2⟩ := of_C n12 (by omega) q2
      unfold R_m_layToldX at ht
      obtain ⟨t, hL⟩ := ht
      obtain ⟨g, hg, hs⟩ := told_0 (by omega) hL
      obtain ⟨x1, x2, x3, x4, x5, x6, x7, x8, hlay, rfl, rfl, rfl, rfl, rfl, rfl, rfl, rfl, rfl⟩ := hg
      refine Or.inr ⟨mi, k, rfl, by omega, hmk, rfl, hk2, er, ?_⟩
      rw [eN] at hB ⊢
      exact lay_0 hB n12 (by omega) hN (fun k hk => hr k (by omega)) (fun k hk => hb mi k hmk (by omega)) (fun k hk => hs k (by omega)) hlay
theorem B_believes {F S : Nat → Int32} {hh r2 : Int32} {p0 p1 xsnapped xmostSlip xslip xisDrawn xseed xtick xmotorTick xahead nrn yhmn zmd zmn zwn zpn tr2 xsnapped2 xmostSlip2 xslip2 xisDrawn2 xseed2 xtick2 xmotorTick2 xahead2 nrk r : Int32} {nrf yhnf yhmf zrf zmf zwf zpf nrg : Nat → Int32} {d_from d_begin d_motor d_change d_startFrame d_changeFrame d_lostAt d_blackAt d_slips d_begin2 d_blackAt2 d_change2 d_changeFrame2 d_from2 d_lostAt2 d_motor2 d_slips2 d_startFrame2 : Nat → Int32} {m_thrown2 m_trouble2 : Int32} (hC : CN F S yhnf yhmn yhmf zrf zmn zmf zpn zpf) (hN : MN F S hh) (hc : R_c_believesX p0 p1 xsnapped xmostSlip xslip xisDrawn xseed xtick xmotorTick xahead nrn nrf yhnf yhmn yhmf zmd zrf zmn zmf zwn zwf zpn zpf tr2 xsnapped2 xmostSlip2 xslip2 xisDrawn2 xseed2 xtick2 xmotorTick2 xahead2 nrg nrk r) (hm : R_m_believesX p0 p1 hh F S d_from d_begin d_motor d_change d_startFrame d_changeFrame d_lostAt d_blackAt d_slips d_begin2 d_blackAt2 d_change2 d_changeFrame2 d_from2 d_lostAt2 d_motor2 d_slips2 d_startFrame2 m_thrown2 m_trouble2 r2) : r = r2 ∧ tr2 = m_trouble2 := by
  have b11 : (F 11).toInt ≤ 4 := hN.1.1.2
  have b12 : (F 12).toInt ≤ 8 := hN.1.2.2
  unfold R_c_believesX at hc
  obtain ⟨t1, s2, s3, s4, s5, s6, s7, s8, s9, g10, k11, r12, hof, et, a⟩ := hc
  have er := a.2.2.2.2.2.2.2.2.2.2
  unfold R_m_believesX R_m_goodX at hm
  obtain ⟨u1, u2, ⟨g1, g2⟩, b', l', c', cf', f', lo', m', sl', st', r14, hcan, h⟩ := hm
  rcases of_c hC (j := 9) (by decide) (by omega) hof with ⟨q, e1, e2⟩ | ⟨mi, k, rfl, hmi, hmk, rfl, hk, e1, e2⟩
  · rcases told_m hN hcan with ⟨q2, w⟩ | ⟨mi, k, rfl, hmi, hmk, rfl, hk, -⟩
    · rcases h with ⟨-, t20, r21, hno, -, -, -, -, -, -, -, -, -, -, etr, er2⟩ | ⟨w2, -⟩
      · unfold R_m_noX at hno
        exact ⟨by rw [er, e2, er2, hno.2], by rw [et, e1, etr, hno.1]⟩
      · exact absurd w w2
    · exact (q.elim (inN (by omega) hk) (inN (by omega) hmk)).elim
  · rcases told_m hN hcan with ⟨q2, w⟩ | ⟨mi2, k2, e3, hmi2, -, e4, hk3, er14, -⟩
    · exact (q2.elim (inN (by omega) hmk) (inN (by omega) hk)).elim
    · obtain rfl : mi = mi2 := nI_inj (by omega) (by omega) e3
      obtain rfl : k = k2 := nI_inj (by omega) (by omega) e4
      rcases h with ⟨w, -⟩ | ⟨-, z29, hz, -, -, -, -, -, -, -, -, -, -, etr, er2⟩
      · rw [er14] at w; exact absurd w (by decide)
      refine ⟨?_, by rw [et, e1, etr, g2]⟩
      have hkN : k < (F 12).toInt.toNat := by omega
      rw [er, e2, er2]
      exact (hN.2.2.2.2 mi k hmk hk z29 hz).symm
