set_option maxRecDepth 100000
set_option maxHeartbeats 4000000
/-! what shows the state: reel, mark, shows, thread, missing, words -/
theorem ivN (a : Nat) {x : Int32} {b : Int} (h : IV x 0 b) (e0 : b = (a : Int) := by omega) : ∃ N : Nat, x = nI N ∧ N ≤ a := by
  obtain ⟨k, e, hk⟩ := nI_oF h.1
  have := h.2
  exact ⟨k, e, by omega⟩
theorem hmX_12_3 {p r : Int32} {f : Nat → Int32} {N : Nat} (hN : N ≤ 12) : R_t_howMany12_3X 0 p (nI N) f r ↔ r = fo (fun k a => a + (if f (3 * k) = p then 1 else 0)) 0 N 0 := by
  unfold R_t_howMany12_3X
  exact hm_12_3 (κ := fun u => r = u) hN
theorem hmX_8_2 {p r : Int32} {f : Nat → Int32} {N : Nat} (hN : N ≤ 8) : R_t_howMany8_2X 0 p (nI N) f r ↔ r = fo (fun k a => a + (if f (2 * k) = p then 1 else 0)) 0 N 0 := by
  unfold R_t_howMany8_2X
  exact hm_8_2 (κ := fun u => r = u) hN
theorem hmX_6_3 {p r : Int32} {f : Nat → Int32} {N : Nat} (hN : N ≤ 6) : R_t_howMany6_3X 0 p (nI N) f r ↔ r = fo (fun k a => a + (if f (3 * k) = p then 1 else 0)) 0 N 0 := by
  unfold R_t_howMany6_3X
  exact hm_6_3 (κ := fun u => r = u) hN
theorem md_onX {p md r : Int32} {f : Nat → Int32} {N : Nat} (hN : N ≤ 6) : R_s_mendedOnX p md (nI N) f r ↔ r = fo (fun k a => a + (if ¬ Bt md k ∧ f (3 * k) = p then 1 else 0)) 0 N 0 := by
  unfold R_s_mendedOnX
  exact md_on (κ := fun u => r = u) hN
theorem lr_marksX {p r : Int32} {F : Nat → Int32} {N : Nat} (hN : N ≤ 12) (hF : F 8 = nI N) : R_m_marksOfX p F r ↔ r = fo (fun k a => a + (if F (44 + 3 * k) = p then 1 else 0)) 0 N 0 := by
  unfold R_m_marksOfX
  exact lr_marks (κ := fun u => r = u) hN hF
theorem lr_joinsX {p r : Int32} {F S : Nat → Int32} {N M : Nat} (hN : N ≤ 8) (hF : F 9 = nI N) (hM : M ≤ 6) (hG : F 10 = nI M) : R_m_joinsOfX p F S r ↔ r = fo (fun k a => a + (if ¬ Bt (S 43) k ∧ F (96 + 3 * k) = p then 1 else 0)) 0 M (fo (fun k a => a + (if F (80 + 2 * k) = p then 1 else 0)) 0 N 0) := by
  unfold R_m_joinsOfX
  rw [lr_joins0 hN hF]
  exact lr_joins1 (κ := fun u => r = u) hM hG
theorem lr_weaksX {p r : Int32} {F S : Nat → Int32} {M : Nat} (hM : M ≤ 6) (hG : F 10 = nI M) : R_m_weaksOfX p F S r ↔ r = fo (fun k a => a + (if Bt (S 43) k ∧ F (96 + 3 * k) = p then 1 else 0)) 0 M 0 := by
  unfold R_m_weaksOfX
  exact lr_weaks (κ := fun u => r = u) hM hG
theorem ls_lackX {p md r : Int32} {f g : Nat → Int32} {N M : Nat} (hN : N ≤ 8) (hM : M ≤ 6) : R_c_lackedByX p (nI N) f md (nI M) g r ↔ r = fo (fun k a => a + (if f (2 * k) = p then f (2 * k + 1) else 0)) 0 N (2 * fo (fun k a => a + (if ¬ Bt md k ∧ g (3 * k) = p then 1 else 0)) 0 M 0) := by
  unfold R_c_lackedByX
  simp only [md_onX hM, exists_eq_left]
  exact ls_lack (κ := fun u => r = u) hN
theorem inX {p a b r : Int32} : R_m_inX p a b r ↔ r = (if p < a ∨ b < p then 0 else 1) := by
  unfold R_m_inX
  rw [goI, goI, iteE, iteE]
  by_cases q : p < a
  · rw [if_pos q, if_pos (Or.inl q)]
  · rw [if_neg q]
    by_cases q2 : b < p
    · rw [if_pos q2, if_pos (Or.inr q2)]
    · rw [if_neg q2, if_neg (fun w => w.elim q q2)]
theorem lt_s1 {x p : Int32} (h : IV x 0 900) : x - 1 < p ↔ x ≤ p := by
  have e := sub1 (z := x - 1) h rfl
  rw [lt_I, le_I, e]; omega
theorem noP (p : Int32) : p < 0 ∨ (0 : Int32) ≤ p := by rw [lt_I, le_I]; omega
theorem iteZ {c : Prop} [d : Decidable c] : (if c then (0 : Int32) else 0) = 0 := by
  by_cases h : c
  · rw [if_pos h]
  · rw [if_neg h]
theorem isAny {p hh x z r : Int32} (hb : IV x 0 900) (h0 : hh = 0 → x = 0) (h : ((hh = (0 : Int32)) ∧ (r = 0)) ∨ ((¬ (hh = (0 : Int32))) ∧ (∃ z_4 : Int32, z_4 = x ∧ ∃ z_7 : Int32, z_7 = z_4 - (1 : Int32) ∧ ∃ r_10 : Int32, (R_m_inX p 0 z_7 r_10) ∧ (((r_10 = (0 : Int32)) ∧ (r = 0)) ∨ ((¬ (r_10 = (0 : Int32))) ∧ (r = 1)))))) : r = (if p < 0 ∨ x ≤ p then 0 else 1) := by
  simp only [exists_eq_left, inX, goI, ite01, iteE, lt_s1 hb] at h
  by_cases q : hh = 0
  · rw [if_pos q] at h
    rw [h, h0 q, if_pos (noP p)]
  · rw [if_neg q] at h
    exact h
theorem isReelX {F : Nat → Int32} {p hh r : Int32} (hb : IV (F 6) 0 8) (h0 : hh = 0 → F 6 = 0) (h : R_m_isReelX p hh F r) : r = (if p < 0 ∨ F 6 ≤ p then 0 else 1) := by
  unfold R_m_isReelX at h
  rw [tc_6] at h
  exact isAny (z := 0) (iv_w hb (by decide) (by decide)) h0 h
theorem isPlaceX {F : Nat → Int32} {p hh r : Int32} (hb : IV (F 12) 0 8) (h0 : hh = 0 → F 12 = 0) (h : R_m_isPlaceX p hh F r) : r = (if p < 0 ∨ F 12 ≤ p then 0 else 1) := by
  unfold R_m_isPlaceX at h
  rw [tc_12] at h
  exact isAny (z := 0) (iv_w hb (by decide) (by decide)) h0 h
theorem of_C {p n : Int32} {N : Nat} (hn : n = nI N) (hN : N ≤ 1000) (h : ¬ (p < 0 ∨ n ≤ p)) : ∃ k : Nat, p = nI k ∧ k < N ∧ (k : Int) < n.toInt := by
  subst hn
  rw [lt_I, le_I, zI, nI_toInt (by omega)] at h
  obtain ⟨k, e, hk⟩ := nI_oF (x := p) (by omega)
  exact ⟨k, e, by omega, by rw [nI_toInt (by omega)]; omega⟩
theorem B_shows {F S : Nat → Int32} {zpf : Nat → Int32} {p0 zpn tr2 r hh th tm r2 : Int32} (hb : IV (F 12) 0 8) (h0 : hh = 0 → F 12 = 0) (e : zpn = F 12) (h4 : ∀ k : Nat, (k : Int) < (F 12).toInt → zpf (2 * k) = F (126 + k) ∧ zpf (2 * k + 1) = S (34 + k)) (hc : R_c_showsX p0 zpn zpf tr2 r) (hm : R_m_showsX p0 hh F th tm r2) : r = r2 ∧ tr2 = tm := by
  subst e
  obtain ⟨N, eN, hN⟩ := ivN 8 hb
  unfold R_c_showsX R_c_ofPlaceX R_c_refuseX R_c_tellX at hc
  unfold R_m_showsX R_m_goodX at hm
  obtain ⟨t1, t2, ⟨rfl, rfl⟩, r5, hr5, hm⟩ := hm
  have hr5 := isPlaceX hb h0 hr5
  subst hr5
  simp only [exists_eq_left, exists_and_left, and_assoc, ite01, goI] at hc
  rw [ite01, goI] at hm
  by_cases q : p0 < 0 ∨ F 12 ≤ p0
  · rw [if_pos q] at hm
    simp only [if_pos q] at hc
    obtain ⟨a, b, ⟨rfl, rfl⟩, rfl, rfl, rfl⟩ := hm
    obtain ⟨a, b, c, d, e⟩ := hc
    exact ⟨by simp_all, by simp_all⟩
  · rw [if_neg q] at hm
    simp only [if_neg q] at hc
    obtain ⟨k, rfl, hk, hk2⟩ := of_C eN (by omega) q
    obtain ⟨r19, hr, rfl, rfl, rfl⟩ := hm
    unfold R_m_reelAtX at hr
    simp only [exists_eq_left, ix_126 (show k ≤ 1000 by omega)] at hr
    rw [tbN (a := 8) (b := 2) (j := 0) (by decide) (by decide) (by omega) (by omega) (by decide) (by omega) (by omega), Nat.add_zero, (h4 k hk2).1] at hc
    simp_all
theorem B_thread {F S : Nat → Int32} {zpf : Nat → Int32} {p0 zpn tr2 r hh th tm r2 : Int32} (hb : IV (F 12) 0 8) (h0 : hh = 0 → F 12 = 0) (e : zpn = F 12) (h4 : ∀ k : Nat, (k : Int) < (F 12).toInt → zpf (2 * k) = F (126 + k) ∧ zpf (2 * k + 1) = S (34 + k)) (hc : R_c_threadX p0 zpn zpf tr2 r) (hm : R_m_threadX p0 hh F S th tm r2) : r = r2 ∧ tr2 = tm := by
  subst e
  obtain ⟨N, eN, hN⟩ := ivN 8 hb
  unfold R_c_threadX R_c_ofPlaceX R_c_refuseX R_c_tellX at hc
  unfold R_m_threadX R_m_goodX at hm
  obtain ⟨t1, t2, ⟨rfl, rfl⟩, r5, hr5, hm⟩ := hm
  have hr5 := isPlaceX hb h0 hr5
  subst hr5
  simp only [exists_eq_left, exists_and_left, and_assoc, ite01, goI] at hc
  rw [ite01, goI] at hm
  by_cases q : p0 < 0 ∨ F 12 ≤ p0
  · rw [if_pos q] at hm
    simp only [if_pos q] at hc
    obtain ⟨a, b, ⟨rfl, rfl⟩, rfl, rfl, rfl⟩ := hm
    exact ⟨by simp_all, by simp_all⟩
  · rw [if_neg q] at hm
    simp only [if_neg q] at hc
    obtain ⟨k, rfl, hk, hk2⟩ := of_C eN (by omega) q
    simp only [exists_eq_left, ix_34 (show k ≤ 1000 by omega)] at hm
    rw [tbN (a := 8) (b := 2) (j := 1) (by decide) (by decide) (by omega) (by omega) (by decide) (by omega) (by omega), (h4 k hk2).2] at hc
    simp_all
theorem sub_s1 {x p : Int32} (h : IV x 0 900) : p < 0 ∨ x - 1 < p ↔ p < 0 ∨ x ≤ p := by rw [lt_s1 h]
theorem B_mark {F S : Nat → Int32} {zmf : Nat → Int32} {p0 p1 yhtn zrn zmn tr2 r hh th tm r2 : Int32} (hB : FIv F) (h6 : hh = 0 → F 6 = 0) (e6 : zrn = F 6) (e7 : yhtn = F 7) (e8 : zmn = F 8) (h2 : ∀ k : Nat, (k : Int) < (F 8).toInt → zmf (3 * k) = F (44 + 3 * k) ∧ zmf (3 * k + 1) = S (16 + k) ∧ zmf (3 * k + 2) = F (44 + 3 * k + 2)) (hc : R_c_markX p0 p1 yhtn zrn zmn zmf tr2 r) (hm : R_m_markX p0 p1 hh F S th tm r2) : r = r2 ∧ tr2 = tm := by
  subst e6 e7 e8
  obtain ⟨b6, b7, b8, -, -, -, -, -⟩ := hB
  obtain ⟨N8, n8, hN8⟩ := ivN 12 b8
  unfold R_c_markX R_c_refuseX R_c_tellX at hc
  unfold R_m_markX R_m_goodX R_m_noX at hm
  obtain ⟨t1, t2, ⟨rfl, rfl⟩, r5, hr5, hm⟩ := hm
  have hr5 := isReelX b6 h6 hr5
  subst hr5
  have e : ff (fun k => zmf (3 * k) = p0 ∧ zmf (3 * k + 2) = p1) (fun k => zmf (3 * k + 1)) (-2) 0 N8 = ff (fun k => F (44 + 3 * k) = p0 ∧ F (44 + 3 * k + 2) = p1) (fun k => S (16 + k)) (-2) 0 N8 := by
    refine ff_congr N8 0 (fun j _ hj => ?_)
    obtain ⟨g1, g2, g3⟩ := h2 j (by rw [n8, nI_toInt (by omega)]; omega)
    rw [g1, g2, g3]
    exact ⟨Iff.rfl, rfl⟩
  rw [n8] at hc
  simp only [exists_eq_left, exists_and_left, and_assoc, ite01, goI, goN, ne_eq, ls_mark hN8] at hc
  simp only [exists_eq_left, exists_and_left, and_assoc, ite01, goI, inX, tc_7, sub_s1 (iv_w b7 (by decide) (by decide)), lr_mark hN8 n8] at hm
  by_cases q : p0 < 0 ∨ F 6 ≤ p0
  · simp only [if_pos q] at hc hm
    simp_all
  · simp only [if_neg q] at hc hm
    by_cases q2 : p1 < 0 ∨ F 7 ≤ p1
    · simp only [if_pos q2] at hc hm
      simp_all
    · simp only [if_neg q2] at hc hm
      simp_all
theorem B_words {F S : Nat → Int32} {yhjf : Nat → Int32} {p0 yhjn zrn tr2 r hh th tm r2 : Int32} (hB : FIv F) (h6 : hh = 0 → F 6 = 0) (e6 : zrn = F 6) (e9 : yhjn = F 9) (hj : TV F yhjf 9 80 2) (hc : R_c_wordsX p0 yhjn yhjf zrn tr2 r) (hm : R_m_wordsX p0 hh F th tm r2) : r = r2 ∧ tr2 = tm := by
  subst e6 e9
  obtain ⟨b6, -, -, b9, -, -, -, -⟩ := hB
  obtain ⟨N, n9, hN⟩ := ivN 8 b9
  unfold R_c_wordsX R_c_refuseX R_c_tellX at hc
  unfold R_m_wordsX R_m_goodX R_m_noX at hm
  obtain ⟨t1, t2, ⟨rfl, rfl⟩, r5, hr5, hm⟩ := hm
  have hr5 := isReelX b6 h6 hr5
  subst hr5
  have e : fo (fun k a => a + (if yhjf (2 * k) = p0 ∧ ¬ yhjf (2 * k + 1) < 24 then 1 else 0)) 0 N 0 = fo (fun k a => a + (if F (80 + 2 * k) = p0 ∧ ¬ F (80 + 2 * k + 1) < 24 then 1 else 0)) 0 N (0 : Int32) := by
    refine fo_congr N 0 _ (fun j _ hj2 a => ?_)
    have q : (j : Int) < (F 9).toInt := by rw [n9, nI_toInt (by omega)]; omega
    have g1 := hj j 0 q (by omega)
    have g2 := hj j 1 q (by omega)
    rw [Nat.add_zero] at g1
    rw [g1, g2, Nat.add_zero]
  rw [n9] at hc
  simp only [ls_words hN, exists_eq_left, exists_and_left, and_assoc, ite01, goI, goN, ne_eq] at hc
  simp only [lr_words hN n9, exists_eq_left, exists_and_left, and_assoc, ite01, goI, goN, ne_eq] at hm
  by_cases q : p0 < 0 ∨ F 6 ≤ p0
  · simp only [if_pos q] at hc hm
    simp_all
  · simp only [if_neg q] at hc hm
    simp_all
theorem lackE {F S f g : Nat → Int32} {p md : Int32} {N M : Nat} (n9 : F 9 = nI N) (n10 : F 10 = nI M) (hN : N ≤ 8) (hM : M ≤ 6) (hmd : md = S 43) (hj : TV F f 9 80 2) (h3 : ∀ k : Nat, (k : Int) < (F 10).toInt → g (3 * k) = F (96 + 3 * k) ∧ g (3 * k + 1) = S (28 + k) ∧ g (3 * k + 2) = F (96 + 3 * k + 2)) (x : Int32) : x - fo (fun k a => a + (if f (2 * k) = p then f (2 * k + 1) else 0)) 0 N (2 * fo (fun k a => a + (if ¬ Bt md k ∧ g (3 * k) = p then 1 else 0)) 0 M 0) = fo (fun k a => a - (if ¬ Bt (S 43) k ∧ F (96 + 3 * k) = p then 2 else 0)) 0 M (fo (fun k a => a - (if F (80 + 2 * k) = p then F (80 + 2 * k + 1) else 0)) 0 N x) := by
  subst hmd
  have e1 : ∀ y : Int32, fo (fun k a => a + (if f (2 * k) = p then f (2 * k + 1) else 0)) 0 N y = fo (fun k a => a + (if F (80 + 2 * k) = p then F (80 + 2 * k + 1) else 0)) 0 N y := by
    intro y
    refine fo_congr N 0 _ (fun j _ hj2 a => ?_)
    have q : (j : Int) < (F 9).toInt := by rw [n9, nI_toInt (by omega)]; omega
    have g1 := hj j 0 q (by omega)
    have g2 := hj j 1 q (by omega)
    rw [Nat.add_zero] at g1
    rw [g1, g2, Nat.add_zero]
  have e2 : fo (fun k a => a + (if ¬ Bt (S 43) k ∧ g (3 * k) = p then 1 else 0)) 0 M 0 = fo (fun k a => a + (if ¬ Bt (S 43) k ∧ F (96 + 3 * k) = p then 1 else 0)) 0 M (0 : Int32) := by
    refine fo_congr M 0 _ (fun j _ hj2 a => ?_)
    rw [(h3 j (by rw [n10, nI_toInt (by omega)]; omega)).1]
  have e3 : fo (fun k a => a + (if ¬ Bt (S 43) k ∧ F (96 + 3 * k) = p then 2 else 0)) 0 M (0 : Int32) = 2 * fo (fun k a => a + (if ¬ Bt (S 43) k ∧ F (96 + 3 * k) = p then 1 else 0)) 0 M 0 := by
    refine (fo_rel (R := fun a b => a = 2 * b) M 0 0 0 (by decide) (fun j _ _ a b h => ?_))
    show a + _ = 2 * (b + _)
    by_cases w : ¬ Bt (S 43) j ∧ F (96 + 3 * j) = p
    · rw [if_pos w, if_pos w, Int32.mul_add, h]; rfl
    · rw [if_neg w, if_neg w, Int32.add_zero, Int32.add_zero, h]
  rw [fo_fromS M 0, fo_fromS N 0, e3, e1, fo_from N 0, e2, Int32.sub_sub]
  congr 1
  exact Int32.add_comm _ _
theorem most0 {z r : Int32} (h : R_m_mostX z 0 r) : r = (if 0 < z then z else 0) := by
  have h := mo_sh h
  exact h
theorem B_missing {F S : Nat → Int32} {yhjf zrf zwf : Nat → Int32} {p0 p1 yhjn zmd zrn zwn tr2 r hh th tm r2 : Int32} (hB : FIv F) (h6 : hh = 0 → F 6 = 0) (e6 : zrn = F 6) (e9 : yhjn = F 9) (e10 : zwn = F 10) (emd : zmd = S 43) (hj : TV F yhjf 9 80 2) (h1 : ∀ k : Nat, (k : Int) < (F 6).toInt → zrf (3 * k) = S k ∧ zrf (3 * k + 1) = S (8 + k) ∧ zrf (3 * k + 2) = F (16 + 3 * k + 2)) (h3 : ∀ k : Nat, (k : Int) < (F 10).toInt → zwf (3 * k) = F (96 + 3 * k) ∧ zwf (3 * k + 1) = S (28 + k) ∧ zwf (3 * k + 2) = F (96 + 3 * k + 2)) (hc : R_c_missingX p0 p1 yhjn yhjf zmd zrn zrf zwn zwf tr2 r) (hm : R_m_missingX p0 p1 hh F S th tm r2) : r = r2 ∧ tr2 = tm := by
  subst e6 e9 e10
  obtain ⟨b6, -, -, b9, b10, -, -, -⟩ := hB
  obtain ⟨N6, n6, hN6⟩ := ivN 8 b6
  obtain ⟨N, n9, hN⟩ := ivN 8 b9
  obtain ⟨M, n10, hM⟩ := ivN 6 b10
  unfold R_c_missingX R_c_refuseX R_c_tellX at hc
  unfold R_m_missingX R_m_goodX R_m_noX at hm
  obtain ⟨t1, t2, ⟨rfl, rfl⟩, r5, hr5, hm⟩ := hm
  have hr5 := isReelX b6 h6 hr5
  subst hr5
  have L := fun x => lackE (p := p0) n9 n10 hN hM emd hj h3 x
  rw [n9, n10] at hc
  by_cases q : p0 < 0 ∨ F 6 ≤ p0
  · simp only [exists_eq_left, exists_and_left, and_assoc, ite01, goI, goN, ne_eq, if_pos q] at hc hm
    simp_all
  · obtain ⟨k, rfl, hk, hk2⟩ := of_C n6 (by omega) q
    have hk9 : k ≤ 1000 := by omega
    simp only [exists_eq_left, exists_and_left, and_assoc, ite01, goI, goN, ne_eq, if_neg q, ls_lackX hN hM] at hc
    simp only [lr_miss0 hN n9, lr_miss1 hM n10, exists_eq_left, exists_and_left, and_assoc, ite01, goI, goN, ne_eq, if_neg q, ix_16_3_2 hk9, ix_0 hk9, Nat.zero_add] at hm
    rw [tbN (R := 8) (V := 3) (a := 8) (b := 3) (c := 2) (j := 2) (by decide) (by decide) (by omega) (by omega) (by decide) (by omega) (by omega), tbN (R := 8) (V := 3) (a := 8) (b := 3) (c := 0) (j := 0) (by decide) (by decide) (by omega) (by omega) (by decide) (by omega) (by omega), Nat.add_zero (3 * k), (h1 k hk2).1, (h1 k hk2).2.2] at hc
    by_cases q2 : p1 = 0
    · simp only [if_pos q2] at hc hm
      simp_all
    · simp only [if_neg q2] at hc hm
      obtain ⟨r52, hr52, g1, g2, g3⟩ := hm
      have hr52 := most0 hr52
      rw [L] at hc
      simp_all
