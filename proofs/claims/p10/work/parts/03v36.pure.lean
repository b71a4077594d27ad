set_option maxRecDepth 100000
set_option maxHeartbeats 4000000
theorem fo_snoc {A : Type} {st : Nat → A → A} : ∀ (k m : Nat) (a : A), fo st m (k + 1) a = st (m + k) (fo st m k a)
  | 0, _, _ => rfl
  | k + 1, m, a => by
    show fo st (m + 1) (k + 1) (st m a) = st (m + (k + 1)) (fo st (m + 1) k (st m a))
    rw [fo_snoc k (m + 1), show m + 1 + k = m + (k + 1) by omega]
def blst (F S : Nat → Int32) (kd tw rl : Int32) (m : Nat) (b : Int32) : Int32 := if F (44 + 3 * m) = rl then (if kd = 1 then (if S (16 + m) < b then S (16 + m) else b) else if kd = 2 then (if b < S (16 + m) then S (16 + m) else b) else if kd = 3 then (if F (44 + 3 * m + 2) = tw then S (16 + m) else b) else b) else b
/-- what the man mi believes of the reel rl -/
def bel (F S : Nat → Int32) (mi : Nat) (rl : Int32) : Int32 := fo (blst F S (F (114 + 3 * mi)) (F (114 + 3 * mi + 1)) rl) 0 (F 8).toInt.toNat (S (8 + rl.toInt.toNat))
theorem bel_c {F S zrf zmf yhmf : Nat → Int32} {mi ρ N8 : Nat} {r : Int32} (n8 : F 8 = nI N8) (hN8 : N8 ≤ 12) (hmi : mi < 4) (hk : (mi : Int) < (F 11).toInt) (hρ : (ρ : Int) < (F 6).toInt) (b6 : (F 6).toInt ≤ 8) (hM : ∀ k : Nat, (k : Int) < (F 11).toInt → yhmf (3 * k) = F (114 + 3 * k) ∧ yhmf (3 * k + 2) = F (114 + 3 * k + 2) ∧ (F (114 + 3 * k) = 3 → yhmf (3 * k + 1) = F (114 + 3 * k + 1))) (h1 : ∀ k : Nat, (k : Int) < (F 6).toInt → zrf (3 * k) = S k ∧ zrf (3 * k + 1) = S (8 + k) ∧ zrf (3 * k + 2) = F (16 + 3 * k + 2)) (h2 : ∀ k : Nat, (k : Int) < (F 8).toInt → zmf (3 * k) = F (44 + 3 * k) ∧ zmf (3 * k + 1) = S (16 + k) ∧ zmf (3 * k + 2) = F (44 + 3 * k + 2)) (h : R_s_believedByX (nI mi) (nI ρ) zrf (nI N8) zmf yhmf r) : r = bel F S mi (nI ρ) := by
  unfold R_s_believedByX at h
  obtain ⟨r1, hr1, r3, hr3, t, h⟩ := h
  obtain ⟨m1, m2, m3⟩ := hM mi hk
  rw [tbN (R := 4) (V := 3) (c := 0) (f := yhmf) (a := 4) (b := 3) (j := 0) (m := mi) (by decide) (by decide) (by omega) (by omega) (by decide) (by omega) (by omega), Nat.add_zero, m1] at hr1
  rw [tbN (R := 8) (V := 3) (c := 1) (f := zrf) (a := 8) (b := 3) (j := 1) (m := ρ) (by decide) (by decide) (by omega) (by omega) (by decide) (by omega) (by omega), (h1 ρ hρ).2.1] at hr3
  have e := lpE (N := N8) (κ := fun u => r = u) (st := blst F S (F (114 + 3 * mi)) (F (114 + 3 * mi + 1)) (nI ρ)) (L := fun n a u => R_s_believedByX_L0 (nI mi) (nI ρ) (nI N8) zmf yhmf r1 (fun u => r = u) n a u) (fun a u h => h) (fun t a => ?_) (fun t a m hm => ?_) r3
  · have e2 := e.mp ⟨t, h⟩
    unfold bel
    rw [n8, nI_toInt (by omega), nI_toInt (by omega), Int.toNat_natCast, Int.toNat_natCast, ← hr3]
    exact e2
  · show R_s_believedByX_L0 (nI mi) (nI ρ) (nI N8) zmf yhmf r1 (fun u => r = u) (t + 1) a (nI N8) ↔ r = a
    rw [R_s_believedByX_L0, goI, if_pos (Int32.le_refl _)]
  · show R_s_believedByX_L0 (nI mi) (nI ρ) (nI N8) zmf yhmf r1 (fun u => r = u) (t + 1) a (nI m) ↔ R_s_believedByX_L0 (nI mi) (nI ρ) (nI N8) zmf yhmf r1 (fun u => r = u) t (blst F S (F (114 + 3 * mi)) (F (114 + 3 * mi + 1)) (nI ρ) m a) (nI (m + 1))
    have hm8 : m < 100000 := by omega
    obtain ⟨g1, g2, g3⟩ := h2 m (by rw [n8, nI_toInt (by omega)]; omega)
    rw [R_s_believedByX_L0, goI, if_neg (nI_nge (by omega) hm)]
    simp only [exists_eq_left, exists_eq_left', ne_eq, goN, goI, ofI1, nI_s1 hm8, tbN (R := 12) (V := 3) (c := 0) (f := zmf) (a := 12) (b := 3) (j := 0) (m := m) (by decide) (by decide) (by omega) (by omega) (by decide) (by omega) (by omega), tbN (R := 12) (V := 3) (c := 1) (f := zmf) (a := 12) (b := 3) (j := 1) (m := m) (by decide) (by decide) (by omega) (by omega) (by decide) (by omega) (by omega), tbN (R := 12) (V := 3) (c := 2) (f := zmf) (a := 12) (b := 3) (j := 2) (m := m) (by decide) (by decide) (by omega) (by omega) (by decide) (by omega) (by omega), tbN (R := 4) (V := 3) (c := 1) (f := yhmf) (a := 4) (b := 3) (j := 1) (m := mi) (by decide) (by decide) (by omega) (by omega) (by decide) (by omega) (by omega), Nat.add_zero, g1, g2, g3, hr1]
    unfold blst
    by_cases q1 : F (44 + 3 * m) = nI ρ
    · rw [if_pos q1, if_pos q1]
      by_cases qa : F (114 + 3 * mi) = 1
      · rw [if_pos qa, if_pos qa]
        by_cases qe : S (16 + m) < a
        · rw [if_pos qe, if_pos qe]
        · rw [if_neg qe, if_neg qe]
      · rw [if_neg qa, if_neg qa]
        by_cases qb : F (114 + 3 * mi) = 2
        · rw [if_pos qb, if_pos qb]
          by_cases qd : a < S (16 + m)
          · rw [if_pos qd, if_pos qd]
          · rw [if_neg qd, if_neg qd]
        · rw [if_neg qb, if_neg qb]
          by_cases qc : F (114 + 3 * mi) = 3
          · rw [if_pos qc, if_pos qc, m3 qc]
            by_cases qf : F (44 + 3 * m + 2) = F (114 + 3 * mi + 1)
            · rw [if_pos qf, if_pos qf]
            · rw [if_neg qf, if_neg qf]
          · rw [if_neg qc, if_neg qc]
    · rw [if_neg q1, if_neg q1]
theorem fo_id {A : Type} {st : Nat → A → A} : ∀ (k m : Nat) (a : A), (∀ j : Nat, m ≤ j → j < m + k → ∀ a : A, st j a = a) → fo st m k a = a
  | 0, _, _, _ => rfl
  | k + 1, m, a, h => by
    show fo st (m + 1) k (st m a) = a
    rw [h m (by omega) (by omega)]
    exact fo_id k (m + 1) a (fun j h1 h2 => h j (by omega) (by omega))
/-- one mark of a town on a reel: the last is the first -/
theorem fo_one {c : Nat → Prop} [DecidablePred c] {v : Nat → Int32} {st : Nat → Int32 → Int32} (hst : ∀ j : Nat, ∀ a : Int32, st j a = if c j then v j else a) : ∀ (k m : Nat) (d : Int32), (∀ i j : Nat, m ≤ i → i < m + k → m ≤ j → j < m + k → c i → c j → i = j) → fo st m k d = ff c v d m k
  | 0, _, _, _ => rfl
  | k + 1, m, d, hu => by
    show fo st (m + 1) k (st m d) = (if c m then v m else ff c v d (m + 1) k)
    rw [hst]
    by_cases q : c m
    · rw [if_pos q, if_pos q]
      refine fo_id k (m + 1) _ (fun j h1 h2 a => ?_)
      rw [hst, if_neg]
      intro w
      have := hu m j (by omega) (by omega) (by omega) (by omega) q w
      omega
    · rw [if_neg q, if_neg q]
      exact fo_one hst k (m + 1) d (fun i j h1 h2 h3 h4 => hu i j (by omega) (by omega) (by omega) (by omega))
/-- another default: the same where something is found -/
theorem ff_def {c : Nat → Prop} [DecidablePred c] {v : Nat → Int32} {d d2 : Int32} (hd : d < 0) : ∀ (k m : Nat), (∀ j : Nat, m ≤ j → j < m + k → ¬ v j < 0) → (if ff c v d m k < 0 then d2 else ff c v d m k) = ff c v d2 m k
  | 0, _, _ => by show (if d < 0 then d2 else d) = d2; rw [if_pos hd]
  | k + 1, m, h => by
    show (if (if c m then v m else ff c v d (m + 1) k) < 0 then d2 else (if c m then v m else ff c v d (m + 1) k)) = (if c m then v m else ff c v d2 (m + 1) k)
    by_cases q : c m
    · rw [if_pos q, if_pos q, if_neg (h m (by omega) (by omega))]
    · rw [if_neg q, if_neg q]
      exact ff_def hd k (m + 1) (fun j h1 h2 => h j (by omega) (by omega))
theorem bel_m {F S : Nat → Int32} {mi k N8 : Nat} {r rl : Int32} (n8 : F 8 = nI N8) (hN8 : N8 ≤ 12) (hmi : mi ≤ 1000) (hk9 : k ≤ 1000) (hrl : F (126 + k) = rl) (hr8 : 0 ≤ rl.toInt ∧ rl.toInt ≤ 8) (hkd : IV (F (114 + 3 * mi)) 0 3) (hU : U3 F) (hS : ∀ m : Nat, (m : Int) < (F 8).toInt → 0 ≤ (S (16 + m)).toInt) (h : R_m_believesOfX (nI mi) (nI k) F S r) : r = bel F S mi rl := by
  unfold R_m_believesOfX R_m_reelAtX at h
  obtain ⟨ρ, e1, h1⟩ := nI_oF hr8.1
  have hρ : ρ ≤ 1000 := by omega
  simp only [exists_eq_left, ix_126 hk9, hrl, ix_114_3_0 hmi, ix_114_3_1 hmi, goN, goI, ne_eq] at h
  unfold bel
  rw [n8, nI_toInt (by omega), Int.toNat_natCast]
  have ei : ((8 : Int32) + rl).toNatClampNeg = 8 + rl.toInt.toNat := by rw [h1, Int.toNat_natCast, e1]; exact ix_8 hρ
  rw [ei] at h
  by_cases q3 : F (114 + 3 * mi) = 3
  · rw [if_pos q3] at h
    simp only [lr_mark hN8 n8, exists_eq_left] at h
    have e2 : fo (blst F S (F (114 + 3 * mi)) (F (114 + 3 * mi + 1)) rl) 0 N8 (S (8 + rl.toInt.toNat)) = ff (fun j => F (44 + 3 * j) = rl ∧ F (44 + 3 * j + 2) = F (114 + 3 * mi + 1)) (fun j => S (16 + j)) (S (8 + rl.toInt.toNat)) 0 N8 := by
      refine fo_one (fun j a => ?_) N8 0 _ (fun i j _ hi _ hj w1 w2 => hU i j (by rw [n8, nI_toInt (by omega)]; omega) (by rw [n8, nI_toInt (by omega)]; omega) (w1.1.trans w2.1.symm) (w1.2.trans w2.2.symm))
      unfold blst
      rw [q3, if_neg (show ¬ (3 : Int32) = 1 by decide), if_neg (show ¬ (3 : Int32) = 2 by decide), if_pos (show (3 : Int32) = 3 from rfl)]
      by_cases w1 : F (44 + 3 * j) = rl
      · rw [if_pos w1]
        by_cases w2 : F (44 + 3 * j + 2) = F (114 + 3 * mi + 1)
        · rw [if_pos w2, if_pos ⟨w1, w2⟩]
        · rw [if_neg w2, if_neg (fun w => w2 w.2)]
      · rw [if_neg w1, if_neg (fun w => w1 w.1)]
    rw [e2, ← ff_def (d := -2) (by decide) N8 0 (fun j _ hj w => by
      have := hS j (by rw [n8, nI_toInt (by omega)]; omega)
      rw [lt_I, zI] at w
      omega)]
    by_cases w : (0 : Int32) ≤ ff (fun j => F (44 + 3 * j) = rl ∧ F (44 + 3 * j + 2) = F (114 + 3 * mi + 1)) (fun j => S (16 + j)) (-2) 0 N8
    · rw [if_pos w] at h
      rw [if_neg (by rw [le_I] at w; rw [lt_I]; omega)]
      exact h
    · rw [if_neg w] at h
      rw [if_pos (by rw [le_I] at w; rw [lt_I]; omega)]
      exact h
  · rw [if_neg q3] at h
    obtain ⟨t, h⟩ := h
    by_cases q0 : F (114 + 3 * mi) = 0
    · -- no mark is taken
      rw [fo_id N8 0 _ (fun j _ hj a => by
        unfold blst
        rw [q0, if_neg (show ¬ (0 : Int32) = 1 by decide), if_neg (show ¬ (0 : Int32) = 2 by decide), if_neg (show ¬ (0 : Int32) = 3 by decide)]
        by_cases w : F (44 + 3 * j) = rl
        · rw [if_pos w]
        · rw [if_neg w])]
      cases t with
      | zero => exact h.elim
      | succ t =>
        rw [R_m_believesOfX_L0] at h
        simp only [exists_eq_left, tc_8, n8, goI, goN, ne_eq] at h
        rw [if_pos q0] at h
        split at h
        · exact h
        · exact h
    · have e := lpE (N := N8) (κ := fun u => r = u) (st := blst F S (F (114 + 3 * mi)) (F (114 + 3 * mi + 1)) rl) (L := fun n a u => R_m_believesOfX_L0 F S rl (F (114 + 3 * mi)) (fun u => r = u) (fun u => r = u) n a u) (fun a u h => h) (fun t a => ?_) (fun t a m hm => ?_) (S (8 + rl.toInt.toNat))
      · exact e.mp ⟨t, h⟩
      · show R_m_believesOfX_L0 F S rl (F (114 + 3 * mi)) (fun u => r = u) (fun u => r = u) (t + 1) a (nI N8) ↔ r = a
        rw [R_m_believesOfX_L0]
        simp only [exists_eq_left, tc_8, n8]
        rw [goI, if_pos (Int32.le_refl _)]
      · show R_m_believesOfX_L0 F S rl (F (114 + 3 * mi)) (fun u => r = u) (fun u => r = u) (t + 1) a (nI m) ↔ R_m_believesOfX_L0 F S rl (F (114 + 3 * mi)) (fun u => r = u) (fun u => r = u) t (blst F S (F (114 + 3 * mi)) (F (114 + 3 * mi + 1)) rl m a) (nI (m + 1))
        have hm8 : m < 100000 := by omega
        have hm9 : m ≤ 1000 := by omega
        rw [R_m_believesOfX_L0]
        simp only [exists_eq_left, tc_8, n8]
        rw [goI, if_neg (nI_nge (by omega) hm), goI, if_neg q0]
        have eL : ∀ x y z : Int32, R_m_leastX x y z ↔ z = if y < x then y else x := fun x y z => ⟨le_sh, fun w => by
          unfold R_m_leastX
          rw [goI, iteE, w]
          by_cases q : y < x
          · rw [if_pos q, if_pos (by rw [lt_I] at q; rw [le_I]; omega)]
          · rw [if_neg q]
            by_cases q2 : y ≤ x
            · rw [if_pos q2]
              exact Int32.toInt_inj.mp (by rw [lt_I] at q; rw [le_I] at q2; omega)
            · rw [if_neg q2]⟩
        have eM : ∀ x y z : Int32, R_m_mostX x y z ↔ z = if y < x then x else y := fun x y z => ⟨mo_sh, fun w => by
          unfold R_m_mostX
          rw [goI, iteE, w]
          by_cases q : y < x
          · rw [if_pos q, if_neg (by rw [lt_I] at q; rw [le_I]; omega)]
          · rw [if_neg q, if_pos (by rw [lt_I] at q; rw [le_I]; omega)]⟩
        simp only [exists_eq_left, exists_eq_left', ne_eq, goN, goI, ofI1, nI_s1 hm8, ix_44_3_0 hm9, ix_16 hm9, eL, eM]
        unfold blst
        by_cases q1 : F (44 + 3 * m) = rl
        · rw [if_pos q1, if_pos q1]
          by_cases qa : F (114 + 3 * mi) = 1
          · rw [if_pos qa, if_pos qa]
          · rw [if_neg qa, if_neg qa]
            have qb : F (114 + 3 * mi) = 2 := by
              obtain ⟨kd, ek, hk⟩ := ivN 3 hkd
              rw [ek] at q0 qa q3 ⊢
              match kd, hk with
              | 0, _ => exact absurd (by decide) q0
              | 1, _ => exact absurd (by decide) qa
              | 2, _ => decide
              | 3, _ => exact absurd (by decide) q3
            rw [if_pos qb]
            by_cases qd : a < S (16 + m)
            · rw [if_pos qd, if_neg (by rw [lt_I] at qd ⊢; omega)]
            · rw [if_neg qd]
              by_cases qf : S (16 + m) < a
              · rw [if_pos qf]
              · rw [if_neg qf, Int32.toInt_inj.mp (show (S (16 + m)).toInt = a.toInt by rw [lt_I] at qd qf; omega)]
        · rw [if_neg q1, if_neg q1]
