set_option maxRecDepth 100000
set_option maxHeartbeats 4000000
theorem c05 {p : Int32} (h1 : ¬ p < 0) (h2 : p ≤ 5) : p = 0 ∨ p = 1 ∨ p = 2 ∨ p = 3 ∨ p = 4 ∨ p = 5 := by
  have e5 : (5 : Int32).toInt = 5 := by decide
  rw [lt_I, zI] at h1
  rw [le_I, e5] at h2
  obtain ⟨k, rfl, hk⟩ := nI_oF (x := p) (by omega)
  have hk2 : k < 6 := by omega
  match k, hk2 with
  | 0, _ => exact Or.inl (by decide)
  | 1, _ => exact Or.inr (Or.inl (by decide))
  | 2, _ => exact Or.inr (Or.inr (Or.inl (by decide)))
  | 3, _ => exact Or.inr (Or.inr (Or.inr (Or.inl (by decide))))
  | 4, _ => exact Or.inr (Or.inr (Or.inr (Or.inr (Or.inl (by decide)))))
  | 5, _ => exact Or.inr (Or.inr (Or.inr (Or.inr (Or.inr (by decide)))))
theorem B_reel {F S : Nat → Int32} {yhjf zrf zmf zwf : Nat → Int32} {p0 p1 yhjn zmd zrn zmn zwn tr2 r hh th tm r2 : Int32} (hB : FIv F) (h6 : hh = 0 → F 6 = 0) (e6 : zrn = F 6) (e8 : zmn = F 8) (e9 : yhjn = F 9) (e10 : zwn = F 10) (emd : zmd = S 43) (hj : TV F yhjf 9 80 2) (h1 : ∀ k : Nat, (k : Int) < (F 6).toInt → zrf (3 * k) = S k ∧ zrf (3 * k + 1) = S (8 + k) ∧ zrf (3 * k + 2) = F (16 + 3 * k + 2)) (h2 : ∀ k : Nat, (k : Int) < (F 8).toInt → zmf (3 * k) = F (44 + 3 * k) ∧ zmf (3 * k + 1) = S (16 + k) ∧ zmf (3 * k + 2) = F (44 + 3 * k + 2)) (h3 : ∀ k : Nat, (k : Int) < (F 10).toInt → zwf (3 * k) = F (96 + 3 * k) ∧ zwf (3 * k + 1) = S (28 + k) ∧ zwf (3 * k + 2) = F (96 + 3 * k + 2)) (hc : R_c_reelX p0 p1 yhjn yhjf zmd zrn zrf zmn zmf zwn zwf tr2 r) (hm : R_m_reelX p0 p1 hh F S th tm r2) : r = r2 ∧ tr2 = tm := by
  subst e6 e8 e9 e10 emd
  obtain ⟨b6, -, b8, b9, b10, -, -, -⟩ := hB
  obtain ⟨N6, n6, hN6⟩ := ivN 8 b6
  obtain ⟨N8, n8, hN8⟩ := ivN 12 b8
  obtain ⟨N, n9, hN⟩ := ivN 8 b9
  obtain ⟨M, n10, hM⟩ := ivN 6 b10
  unfold R_c_reelX R_c_refuseX R_c_tellX at hc
  unfold R_m_reelX R_m_goodX R_m_noX at hm
  obtain ⟨t1, t2, ⟨rfl, rfl⟩, r5, hr5, hm⟩ := hm
  have hr5 := isReelX b6 h6 hr5
  subst hr5
  by_cases q : p0 < 0 ∨ F 6 ≤ p0
  · simp only [exists_eq_left, exists_and_left, and_assoc, ite01, goI, goN, ne_eq, if_pos q] at hc hm
    simp_all
  · obtain ⟨k, rfl, hk, hk2⟩ := of_C n6 (by omega) q
    have hk9 : k ≤ 1000 := by omega
    have E1 : fo (fun j a => a + (if zmf (3 * j) = nI k then 1 else 0)) 0 N8 0 = fo (fun j a => a + (if F (44 + 3 * j) = nI k then 1 else 0)) 0 N8 (0 : Int32) :=
      fo_congr N8 0 _ (fun j _ hj2 a => by rw [(h2 j (by rw [n8, nI_toInt (by omega)]; omega)).1])
    have E2 : fo (fun j a => a + (if yhjf (2 * j) = nI k then 1 else 0)) 0 N 0 = fo (fun j a => a + (if F (80 + 2 * j) = nI k then 1 else 0)) 0 N (0 : Int32) :=
      fo_congr N 0 _ (fun j _ hj2 a => by
        have g1 := hj j 0 (by rw [n9, nI_toInt (by omega)]; omega) (by omega)
        rw [Nat.add_zero, Nat.add_zero] at g1
        rw [g1])
    have E3 : fo (fun j a => a + (if zwf (3 * j) = nI k then 1 else 0)) 0 M 0 = fo (fun j a => a + (if F (96 + 3 * j) = nI k then 1 else 0)) 0 M (0 : Int32) :=
      fo_congr M 0 _ (fun j _ hj2 a => by rw [(h3 j (by rw [n10, nI_toInt (by omega)]; omega)).1])
    have E4 : fo (fun j a => a + (if ¬ Bt (S 43) j ∧ zwf (3 * j) = nI k then 1 else 0)) 0 M 0 = fo (fun j a => a + (if ¬ Bt (S 43) j ∧ F (96 + 3 * j) = nI k then 1 else 0)) 0 M (0 : Int32) :=
      fo_congr M 0 _ (fun j _ hj2 a => by rw [(h3 j (by rw [n10, nI_toInt (by omega)]; omega)).1])
    have E5 : fo (fun j a => a + (if F (96 + 3 * j) = nI k then 1 else 0)) 0 M (0 : Int32) - fo (fun j a => a + (if ¬ Bt (S 43) j ∧ F (96 + 3 * j) = nI k then 1 else 0)) 0 M (0 : Int32) = fo (fun j a => a + (if Bt (S 43) j ∧ F (96 + 3 * j) = nI k then 1 else 0)) 0 M (0 : Int32) := by
      rw [fo_sub, Int32.sub_zero]
      refine fo_congr M 0 _ (fun j _ hj2 a => ?_)
      congr 1
      rcases tf (Bt (S 43) j) with w1 | w1 <;> by_cases w2 : F (96 + 3 * j) = nI k <;> simp only [w1, w2, not_true_eq_false, not_false_eq_true, and_true, and_false, true_and, false_and, if_true, if_false, ↓reduceIte] <;> decide
    rw [n8, n9, n10] at hc
    simp only [exists_eq_left, exists_and_left, and_assoc, ite01, goI, goN, ne_eq, if_neg q, hmX_12_3 hN8, hmX_8_2 hN, hmX_6_3 hM, md_onX hM, E1, E2, E3, E4, E5] at hc
    simp only [exists_eq_left, exists_and_left, and_assoc, ite01, goI, goN, ne_eq, if_neg q, inX, lr_marksX hN8 n8, lr_joinsX hN n9 hM n10, lr_weaksX hM n10, ix_0 hk9, ix_8 hk9, ix_16_3_2 hk9, Nat.zero_add] at hm
    by_cases q1 : p1 < 0
    · simp only [if_pos q1, if_pos (Or.inl (b := (5 : Int32) < p1) q1)] at hc hm
      simp_all
    · by_cases q2 : p1 ≤ 5
      · have q3 : ¬ (p1 < 0 ∨ (5 : Int32) < p1) := fun w => w.elim q1 (fun v => by rw [le_I] at q2; rw [lt_I] at v; omega)
        simp only [if_neg q1, if_pos q2, if_neg q3] at hc hm
        rcases c05 q1 q2 with rfl | rfl | rfl | rfl | rfl | rfl
        · simp (decide := true) only [↓reduceIte] at hc hm
          rw [tbN (R := 8) (V := 3) (a := 8) (b := 3) (c := 0) (j := 0) (m := k) (by decide) (by decide) (by omega) (by omega) (by decide) (by omega) (by omega), Nat.add_zero (3 * k), (h1 k hk2).1] at hc
          simp_all
        · simp (decide := true) only [↓reduceIte] at hc hm
          rw [tbN (R := 8) (V := 3) (a := 8) (b := 3) (c := 1) (j := 1) (m := k) (by decide) (by decide) (by omega) (by omega) (by decide) (by omega) (by omega), (h1 k hk2).2.1] at hc
          simp_all
        · simp (decide := true) only [↓reduceIte] at hc hm
          rw [tbN (R := 8) (V := 3) (a := 8) (b := 3) (c := 2) (j := 2) (m := k) (by decide) (by decide) (by omega) (by omega) (by decide) (by omega) (by omega), (h1 k hk2).2.2] at hc
          simp_all
        · simp (decide := true) only [↓reduceIte] at hc hm
          simp_all
        · simp (decide := true) only [↓reduceIte] at hc hm
          rw [fo_from M 0] at hm
          simp_all
        · simp (decide := true) only [↓reduceIte] at hc hm
          simp_all
      · have q3 : p1 < 0 ∨ (5 : Int32) < p1 := Or.inr (by rw [le_I] at q2; rw [lt_I]; omega)
        simp only [if_neg q1, if_neg q2, if_pos q3] at hc hm
        simp_all
theorem bc_ones : ∀ n : Nat, n < 64 → ∀ r : Int32, R_j_bitCountX (nI n) r → r = fo (fun k a => a + ((nI n >>> (nI k &&& 31)) &&& 1)) 0 8 0 := by
  intro n hn r h
  unfold R_j_bitCountX at h
  simp only [exists_eq_left] at h
  rw [h]
  have key : ∀ m : Fin 64, (((((((((nI m.1) - ((((nI m.1)).toUInt32 >>> (((1 : Int32)).toUInt32 &&& Int32.toUInt32 31)).toInt32 &&& (1431655765 : Int32))) &&& (858993459 : Int32)) + (((((nI m.1) - ((((nI m.1)).toUInt32 >>> (((1 : Int32)).toUInt32 &&& Int32.toUInt32 31)).toInt32 &&& (1431655765 : Int32)))).toUInt32 >>> (((2 : Int32)).toUInt32 &&& Int32.toUInt32 31)).toInt32 &&& (858993459 : Int32))) + ((((((nI m.1) - ((((nI m.1)).toUInt32 >>> (((1 : Int32)).toUInt32 &&& Int32.toUInt32 31)).toInt32 &&& (1431655765 : Int32))) &&& (858993459 : Int32)) + (((((nI m.1) - ((((nI m.1)).toUInt32 >>> (((1 : Int32)).toUInt32 &&& Int32.toUInt32 31)).toInt32 &&& (1431655765 : Int32)))).toUInt32 >>> (((2 : Int32)).toUInt32 &&& Int32.toUInt32 31)).toInt32 &&& (858993459 : Int32)))).toUInt32 >>> (((4 : Int32)).toUInt32 &&& Int32.toUInt32 31)).toInt32) &&& (252645135 : Int32)) + ((((((((nI m.1) - ((((nI m.1)).toUInt32 >>> (((1 : Int32)).toUInt32 &&& Int32.toUInt32 31)).toInt32 &&& (1431655765 : Int32))) &&& (858993459 : Int32)) + (((((nI m.1) - ((((nI m.1)).toUInt32 >>> (((1 : Int32)).toUInt32 &&& Int32.toUInt32 31)).toInt32 &&& (1431655765 : Int32)))).toUInt32 >>> (((2 : Int32)).toUInt32 &&& Int32.toUInt32 31)).toInt32 &&& (858993459 : Int32))) + ((((((nI m.1) - ((((nI m.1)).toUInt32 >>> (((1 : Int32)).toUInt32 &&& Int32.toUInt32 31)).toInt32 &&& (1431655765 : Int32))) &&& (858993459 : Int32)) + (((((nI m.1) - ((((nI m.1)).toUInt32 >>> (((1 : Int32)).toUInt32 &&& Int32.toUInt32 31)).toInt32 &&& (1431655765 : Int32)))).toUInt32 >>> (((2 : Int32)).toUInt32 &&& Int32.toUInt32 31)).toInt32 &&& (858993459 : Int32)))).toUInt32 >>> (((4 : Int32)).toUInt32 &&& Int32.toUInt32 31)).toInt32) &&& (252645135 : Int32))).toUInt32 >>> (((8 : Int32)).toUInt32 &&& Int32.toUInt32 31)).toInt32) + (((((((((nI m.1) - ((((nI m.1)).toUInt32 >>> (((1 : Int32)).toUInt32 &&& Int32.toUInt32 31)).toInt32 &&& (1431655765 : Int32))) &&& (858993459 : Int32)) + (((((nI m.1) - ((((nI m.1)).toUInt32 >>> (((1 : Int32)).toUInt32 &&& Int32.toUInt32 31)).toInt32 &&& (1431655765 : Int32)))).toUInt32 >>> (((2 : Int32)).toUInt32 &&& Int32.toUInt32 31)).toInt32 &&& (858993459 : Int32))) + ((((((nI m.1) - ((((nI m.1)).toUInt32 >>> (((1 : Int32)).toUInt32 &&& Int32.toUInt32 31)).toInt32 &&& (1431655765 : Int32))) &&& (858993459 : Int32)) + (((((nI m.1) - ((((nI m.1)).toUInt32 >>> (((1 : Int32)).toUInt32 &&& Int32.toUInt32 31)).toInt32 &&& (1431655765 : Int32)))).toUInt32 >>> (((2 : Int32)).toUInt32 &&& Int32.toUInt32 31)).toInt32 &&& (858993459 : Int32)))).toUInt32 >>> (((4 : Int32)).toUInt32 &&& Int32.toUInt32 31)).toInt32) &&& (252645135 : Int32)) + ((((((((nI m.1) - ((((nI m.1)).toUInt32 >>> (((1 : Int32)).toUInt32 &&& Int32.toUInt32 31)).toInt32 &&& (1431655765 : Int32))) &&& (858993459 : Int32)) + (((((nI m.1) - ((((nI m.1)).toUInt32 >>> (((1 : Int32)).toUInt32 &&& Int32.toUInt32 31)).toInt32 &&& (1431655765 : Int32)))).toUInt32 >>> (((2 : Int32)).toUInt32 &&& Int32.toUInt32 31)).toInt32 &&& (858993459 : Int32))) + ((((((nI m.1) - ((((nI m.1)).toUInt32 >>> (((1 : Int32)).toUInt32 &&& Int32.toUInt32 31)).toInt32 &&& (1431655765 : Int32))) &&& (858993459 : Int32)) + (((((nI m.1) - ((((nI m.1)).toUInt32 >>> (((1 : Int32)).toUInt32 &&& Int32.toUInt32 31)).toInt32 &&& (1431655765 : Int32)))).toUInt32 >>> (((2 : Int32)).toUInt32 &&& Int32.toUInt32 31)).toInt32 &&& (858993459 : Int32)))).toUInt32 >>> (((4 : Int32)).toUInt32 &&& Int32.toUInt32 31)).toInt32) &&& (252645135 : Int32))).toUInt32 >>> (((8 : Int32)).toUInt32 &&& Int32.toUInt32 31)).toInt32)).toUInt32 >>> (((16 : Int32)).toUInt32 &&& Int32.toUInt32 31)).toInt32) &&& (63 : Int32)) = fo (fun k a => a + ((nI m.1 >>> (nI k &&& 31)) &&& 1)) 0 8 (0 : Int32) := by decide +kernel
  exact key ⟨n, hn⟩
theorem lr_onesX {p r : Int32} : R_m_onesX p r ↔ r = fo (fun k a => a + ((p >>> (nI k &&& 31)) &&& 1)) 0 8 0 := by
  unfold R_m_onesX
  exact lr_ones (κ := fun u => r = u)
theorem tb16 {f : Nat → Int32} {j : Nat} (h : j < 6) : tbAt 1 6 f 0 (nI j) = f j := by
  have e := tbN (R := 1) (V := 6) (f := f) (c := nI j) (m := 0) (j := j) (a := 1) (b := 6) (by decide) (by decide) (by omega) (by omega) (nI_toInt (by omega)) (by omega) h
  rw [nI_0, Nat.mul_zero, Nat.zero_add] at e
  exact e
theorem h_num {f : Nat → Int32} {x r : Int32} {j : Nat} (hx : x = nI j) (hj : j < 6) : R_h_numberX x f r ↔ r = f j := by
  unfold R_h_numberX
  subst hx
  simp only [exists_eq_left, tb16 hj]
theorem c17 {p : Int32} (h1 : ¬ p < 0) (h2 : p ≤ 17) : ∃ k : Nat, p = nI k ∧ k < 18 := by
  have e5 : (17 : Int32).toInt = 17 := by decide
  rw [lt_I, zI] at h1
  rw [le_I, e5] at h2
  obtain ⟨k, e, hk⟩ := nI_oF (x := p) (by omega)
  exact ⟨k, e, by omega⟩
theorem B_size {F S yhnf : Nat → Int32} {p0 xtpd yhtn yhjn yhmn yhsn yhcn zmd zrn zmn zwn zpn kac kim r taped hh undos images th r2 : Int32} (et : xtpd = taped) (e6 : zrn = F 6) (e7 : yhtn = F 7) (e8 : zmn = F 8) (e9 : yhjn = F 9) (e10 : zwn = F 10) (e11 : yhmn = F 11) (e12 : zpn = F 12) (e13 : yhsn = F 13) (e14 : yhcn = F 14) (emd : zmd = S 43) (hmd : IV (S 43) 0 63) (hn : ∀ j : Nat, j < 6 → yhnf j = F j) (ek : kac = undos) (ei : kim = images) (hz : hh = 0 → (∀ i : Nat, i < 167 → F i = 0) ∧ S 43 = 0 ∧ undos = 0 ∧ images = 0) (hc : R_c_sizeX p0 xtpd yhnf yhtn yhjn yhmn yhsn yhcn zmd zrn zmn zwn zpn kac kim r) (hm : R_m_sizeX p0 taped hh undos images F S th r2) : r = r2 := by
  subst et e6 e7 e8 e9 e10 e11 e12 e13 e14 emd ek ei
  obtain ⟨n43, e43, h43⟩ := ivN 63 hmd
  unfold R_c_sizeX at hc
  unfold R_m_sizeX at hm
  have hbc : ∀ x : Int32, R_j_bitCountX (S 43) x → x = fo (fun k a => a + ((S 43 >>> (nI k &&& 31)) &&& 1)) 0 8 0 := by
    intro x hx
    rw [e43] at hx ⊢
    exact bc_ones n43 (by omega) x hx
  simp only [goI, goN, ne_eq, exists_eq_left, inX, ite01, lr_onesX, tc_9, tc_43] at hm
  simp only [goI, goN, ne_eq] at hc
  by_cases q1 : p0 < 0
  · have ne : ∀ n : Nat, n < 18 → ¬ p0 = nI n := fun n hn w => by
      rw [lt_I, w, nI_toInt (by omega), zI] at q1; omega
    have w6 : ¬ p0 = 6 := ne 6 (by omega)
    have w7 : ¬ p0 = 7 := ne 7 (by omega)
    have w8 : ¬ p0 = 8 := ne 8 (by omega)
    have w9 : ¬ p0 = 9 := ne 9 (by omega)
    have w10 : ¬ p0 = 10 := ne 10 (by omega)
    have w11 : ¬ p0 = 11 := ne 11 (by omega)
    have w12 : ¬ p0 = 12 := ne 12 (by omega)
    have w13 : ¬ p0 = 13 := ne 13 (by omega)
    have w14 : ¬ p0 = 14 := ne 14 (by omega)
    have w15 : ¬ p0 = 15 := ne 15 (by omega)
    have w16 : ¬ p0 = 16 := ne 16 (by omega)
    have w17 : ¬ p0 = 17 := ne 17 (by omega)
    simp only [if_pos q1, if_neg w6, if_neg w7, if_neg w8, if_neg w9, if_neg w10, if_neg w11, if_neg w12, if_neg w13, if_neg w14, if_neg w15, if_neg w16, if_neg w17] at hc
    simp only [if_neg w17, if_neg w9, if_neg w15, if_neg w16, if_pos (Or.inl (b := (14 : Int32) < p0) q1), if_pos (Or.inl (b := (16 : Int32) < p0) q1)] at hm
    by_cases q : hh = 0
    · rw [if_pos q] at hm; rw [hc, hm.2]
    · rw [if_neg q] at hm; rw [hc, hm.2]
  by_cases q2 : p0 ≤ 17
  · obtain ⟨k, rfl, hk⟩ := c17 q1 q2
    rw [if_neg q1] at hc
    have nz : ∀ j : Nat, j < 6 → tbAt 1 6 yhnf 0 (nI j) = F j := fun j hj => (tb16 hj).trans (hn j hj)
    match k, hk with
    | 0, _ =>
      have e : nI 0 = 0 := by decide
      rw [e] at hc hm
      simp (decide := true) only [↓reduceIte] at hc hm
      obtain ⟨r43, hr43, rfl⟩ := hc
      unfold R_h_numberX at hr43
      simp only [exists_eq_left] at hr43
      rw [hr43]
      have e2 := nz 0 (by omega)
      rw [e] at e2
      rw [e2]
      by_cases q : hh = 0
      · rw [if_pos q] at hm
        obtain ⟨z1, z2, z3, z4⟩ := hz q
        rw [hm.2, z1 0 (by omega)]
      · rw [if_neg q] at hm
        rw [hm.2]; rfl
    | 1, _ =>
      have e : nI 1 = 1 := by decide
      rw [e] at hc hm
      simp (decide := true) only [↓reduceIte] at hc hm
      obtain ⟨r43, hr43, rfl⟩ := hc
      unfold R_h_numberX at hr43
      simp only [exists_eq_left] at hr43
      rw [hr43]
      have e2 := nz 1 (by omega)
      rw [e] at e2
      rw [e2]
      by_cases q : hh = 0
      · rw [if_pos q] at hm
        obtain ⟨z1, z2, z3, z4⟩ := hz q
        rw [hm.2, z1 1 (by omega)]
      · rw [if_neg q] at hm
        rw [hm.2]; rfl
    | 2, _ =>
      have e : nI 2 = 2 := by decide
      rw [e] at hc hm
      simp (decide := true) only [↓reduceIte] at hc hm
      obtain ⟨r43, hr43, rfl⟩ := hc
      unfold R_h_numberX at hr43
      simp only [exists_eq_left] at hr43
      rw [hr43]
      have e2 := nz 2 (by omega)
      rw [e] at e2
      rw [e2]
      by_cases q : hh = 0
      · rw [if_pos q] at hm
        obtain ⟨z1, z2, z3, z4⟩ := hz q
        rw [hm.2, z1 2 (by omega)]
      · rw [if_neg q] at hm
        rw [hm.2]; rfl
    | 3, _ =>
      have e : nI 3 = 3 := by decide
      rw [e] at hc hm
      simp (decide := true) only [↓reduceIte] at hc hm
      obtain ⟨r43, hr43, rfl⟩ := hc
      unfold R_h_numberX at hr43
      simp only [exists_eq_left] at hr43
      rw [hr43]
      have e2 := nz 3 (by omega)
      rw [e] at e2
      rw [e2]
      by_cases q : hh = 0
      · rw [if_pos q] at hm
        obtain ⟨z1, z2, z3, z4⟩ := hz q
        rw [hm.2, z1 3 (by omega)]
      · rw [if_neg q] at hm
        rw [hm.2]; rfl
    | 4, _ =>
      have e : nI 4 = 4 := by decide
      rw [e] at hc hm
      simp (decide := true) only [↓reduceIte] at hc hm
      obtain ⟨r43, hr43, rfl⟩ := hc
      unfold R_h_numberX at hr43
      simp only [exists_eq_left] at hr43
      rw [hr43]
      have e2 := nz 4 (by omega)
      rw [e] at e2
      rw [e2]
      by_cases q : hh = 0
      · rw [if_pos q] at hm
        obtain ⟨z1, z2, z3, z4⟩ := hz q
        rw [hm.2, z1 4 (by omega)]
      · rw [if_neg q] at hm
        rw [hm.2]; rfl
    | 5, _ =>
      have e : nI 5 = 5 := by decide
      rw [e] at hc hm
      simp (decide := true) only [↓reduceIte] at hc hm
      obtain ⟨r43, hr43, rfl⟩ := hc
      unfold R_h_numberX at hr43
      simp only [exists_eq_left] at hr43
      rw [hr43]
      have e2 := nz 5 (by omega)
      rw [e] at e2
      rw [e2]
      by_cases q : hh = 0
      · rw [if_pos q] at hm
        obtain ⟨z1, z2, z3, z4⟩ := hz q
        rw [hm.2, z1 5 (by omega)]
      · rw [if_neg q] at hm
        rw [hm.2]; rfl
    | 6, _ =>
      have e : nI 6 = 6 := by decide
      rw [e] at hc hm
      simp (decide := true) only [↓reduceIte] at hc hm
      by_cases q : hh = 0
      · rw [if_pos q] at hm
        obtain ⟨z1, z2, z3, z4⟩ := hz q
        rw [hc, hm.2, z1 6 (by omega)]
      · rw [if_neg q] at hm
        rw [hc, hm.2]; rfl
    | 7, _ =>
      have e : nI 7 = 7 := by decide
      rw [e] at hc hm
      simp (decide := true) only [↓reduceIte] at hc hm
      by_cases q : hh = 0
      · rw [if_pos q] at hm
        obtain ⟨z1, z2, z3, z4⟩ := hz q
        rw [hc, hm.2, z1 7 (by omega)]
      · rw [if_neg q] at hm
        rw [hc, hm.2]; rfl
    | 8, _ =>
      have e : nI 8 = 8 := by decide
      rw [e] at hc hm
      simp (decide := true) only [↓reduceIte] at hc hm
      by_cases q : hh = 0
      · rw [if_pos q] at hm
        obtain ⟨z1, z2, z3, z4⟩ := hz q
        rw [hc, hm.2, z1 8 (by omega)]
      · rw [if_neg q] at hm
        rw [hc, hm.2]; rfl
    | 9, _ =>
      have e : nI 9 = 9 := by decide
      rw [e] at hc hm
      simp (decide := true) only [↓reduceIte] at hc hm
      obtain ⟨r8, hr8, hc⟩ := hc
      rw [hbc _ hr8] at hc
      simp only [exists_eq_left] at hc
      by_cases q : hh = 0
      · rw [if_pos q] at hm
        obtain ⟨z1, z2, z3, z4⟩ := hz q
        rw [hc, hm.2, z1 9 (by omega), z2]; decide +kernel
      · rw [if_neg q] at hm
        rw [hc, hm.2]
    | 10, _ =>
      have e : nI 10 = 10 := by decide
      rw [e] at hc hm
      simp (decide := true) only [↓reduceIte] at hc hm
      by_cases q : hh = 0
      · rw [if_pos q] at hm
        obtain ⟨z1, z2, z3, z4⟩ := hz q
        rw [hc, hm.2, z1 10 (by omega)]
      · rw [if_neg q] at hm
        rw [hc, hm.2]; rfl
    | 11, _ =>
      have e : nI 11 = 11 := by decide
      rw [e] at hc hm
      simp (decide := true) only [↓reduceIte] at hc hm
      by_cases q : hh = 0
      · rw [if_pos q] at hm
        obtain ⟨z1, z2, z3, z4⟩ := hz q
        rw [hc, hm.2, z1 11 (by omega)]
      · rw [if_neg q] at hm
        rw [hc, hm.2]; rfl
    | 12, _ =>
      have e : nI 12 = 12 := by decide
      rw [e] at hc hm
      simp (decide := true) only [↓reduceIte] at hc hm
      by_cases q : hh = 0
      · rw [if_pos q] at hm
        obtain ⟨z1, z2, z3, z4⟩ := hz q
        rw [hc, hm.2, z1 12 (by omega)]
      · rw [if_neg q] at hm
        rw [hc, hm.2]; rfl
    | 13, _ =>
      have e : nI 13 = 13 := by decide
      rw [e] at hc hm
      simp (decide := true) only [↓reduceIte] at hc hm
      by_cases q : hh = 0
      · rw [if_pos q] at hm
        obtain ⟨z1, z2, z3, z4⟩ := hz q
        rw [hc, hm.2, z1 13 (by omega)]
      · rw [if_neg q] at hm
        rw [hc, hm.2]; rfl
    | 14, _ =>
      have e : nI 14 = 14 := by decide
      rw [e] at hc hm
      simp (decide := true) only [↓reduceIte] at hc hm
      by_cases q : hh = 0
      · rw [if_pos q] at hm
        obtain ⟨z1, z2, z3, z4⟩ := hz q
        rw [hc, hm.2, z1 14 (by omega)]
      · rw [if_neg q] at hm
        rw [hc, hm.2]; rfl
    | 15, _ =>
      have e : nI 15 = 15 := by decide
      rw [e] at hc hm
      simp (decide := true) only [↓reduceIte] at hc hm
      by_cases q : hh = 0
      · rw [if_pos q] at hm
        obtain ⟨z1, z2, z3, z4⟩ := hz q
        rw [hc, hm.2, z3]
      · rw [if_neg q] at hm
        rw [hc, hm.2]
    | 16, _ =>
      have e : nI 16 = 16 := by decide
      rw [e] at hc hm
      simp (decide := true) only [↓reduceIte] at hc hm
      by_cases q : hh = 0
      · rw [if_pos q] at hm
        obtain ⟨z1, z2, z3, z4⟩ := hz q
        rw [hc, hm.2, z4]
      · rw [if_neg q] at hm
        rw [hc, hm.2]
    | 17, _ =>
      have e : nI 17 = 17 := by decide
      rw [e] at hc hm
      simp (decide := true) only [↓reduceIte] at hc hm
      exact hm.2.symm ▸ (by rw [hc])
    | k + 18, hk => exact absurd hk (by omega)
  · have q3 : (17 : Int32).toInt < p0.toInt := by rw [le_I] at q2; omega
    have e17 : (17 : Int32).toInt = 17 := by decide
    have e14 : (14 : Int32).toInt = 14 := by decide
    have e16 : (16 : Int32).toInt = 16 := by decide
    have e5 : (5 : Int32).toInt = 5 := by decide
    have ne : ∀ n : Nat, n < 18 → ¬ p0 = nI n := fun n hn w => by
      rw [w, nI_toInt (by omega), e17] at q3; omega
    have w6 : ¬ p0 = 6 := ne 6 (by omega)
    have w7 : ¬ p0 = 7 := ne 7 (by omega)
    have w8 : ¬ p0 = 8 := ne 8 (by omega)
    have w9 : ¬ p0 = 9 := ne 9 (by omega)
    have w10 : ¬ p0 = 10 := ne 10 (by omega)
    have w11 : ¬ p0 = 11 := ne 11 (by omega)
    have w12 : ¬ p0 = 12 := ne 12 (by omega)
    have w13 : ¬ p0 = 13 := ne 13 (by omega)
    have w14 : ¬ p0 = 14 := ne 14 (by omega)
    have w15 : ¬ p0 = 15 := ne 15 (by omega)
    have w16 : ¬ p0 = 16 := ne 16 (by omega)
    have w17 : ¬ p0 = 17 := ne 17 (by omega)
    have q5 : (5 : Int32) < p0 := by rw [lt_I]; omega
    have q14 : (14 : Int32) < p0 := by rw [lt_I]; omega
    have q16 : (16 : Int32) < p0 := by rw [lt_I]; omega
    simp only [if_neg q1, if_pos q5, if_neg w6, if_neg w7, if_neg w8, if_neg w9, if_neg w10, if_neg w11, if_neg w12, if_neg w13, if_neg w14, if_neg w15, if_neg w16, if_neg w17] at hc
    simp only [if_neg w17, if_neg w9, if_neg w15, if_neg w16, if_pos (Or.inr (a := p0 < 0) q14), if_pos (Or.inr (a := p0 < 0) q16)] at hm
    by_cases q : hh = 0
    · rw [if_pos q] at hm; rw [hc, hm.2]
    · rw [if_neg q] at hm; rw [hc, hm.2]
