set_option maxRecDepth 100000
set_option maxHeartbeats 4000000
theorem shG_RV {F T : Nat → Int32} {n : Int32} (f1 : ∀ j : Nat, j < 8 → (F 6).toInt ≤ j → ¬ 0 < (F (167 + j)).toInt) : ∀ (f m : Nat) (Fm : Nat → Int32) (a : Int32) (v : (Nat → Int32) × Int32), m ≤ 8 → (∀ i : Nat, (i < 126 ∨ 133 < i) → Fm i = F i) → (∀ k : Nat, k < m → 0 ≤ (Fm (126 + k)).toInt ∧ (Fm (126 + k)).toInt < (F 6).toInt) → showG T n f m Fm a = .inr v → (∀ i : Nat, i ≠ 12 → (i < 126 ∨ 133 < i) → v.1 i = F i) ∧ RC v.1 12 126 1 6 := by
  intro f
  induction f with
  | zero => intro m Fm a v _ _ _ h; rw [showG] at h; cases h
  | succ f ih =>
    intro m Fm a v hm hF hI h
    rw [showG] at h
    obtain ⟨r, hr, h⟩ := bnd_i h
    by_cases q8 : m = 8
    · rw [if_pos q8] at h; cases h
    rw [if_neg q8] at h
    have hp : reelP Fm T n a = .inr (r, nx T n a) := by unfold reelP; rw [hr, bnd_r]
    have i1 := (reelP_inr hp).1
    have i2 := reelP_lt (fun j hj hj2 => by rw [hF _ (by omega)] at hj2 ⊢; exact f1 j hj hj2) hp
    rw [hF 6 (by first | decide | omega)] at i2
    have hF2 : ∀ i : Nat, (i < 126 ∨ 133 < i) → upd Fm (126 + m) r i = F i := fun i hi => by rw [upd_ne (by omega)]; exact hF i hi
    have hI2 : ∀ k : Nat, k < m + 1 → 0 ≤ (upd Fm (126 + m) r (126 + k)).toInt ∧ (upd Fm (126 + m) r (126 + k)).toInt < (F 6).toInt := by
      intro k hk
      by_cases w : k = m
      · subst w; rw [upd_at]; exact ⟨i1.1, i2⟩
      · rw [upd_ne (by omega)]; exact hI k (by omega)
    by_cases q4 : tkF T n (nx T n a) = 4
    · rw [if_pos q4] at h
      exact ih (m + 1) _ _ v (by omega) hF2 hI2 h
    · rw [if_neg q4] at h
      unfold showE at h
      by_cases q2 : m + 1 < 2
      · rw [if_pos q2] at h
        split at h
        · cases h
        · split at h <;> cases h
      · rw [if_neg q2] at h
        have e := Sum.inr.inj h
        rw [← e]
        refine ⟨fun i h1 h2 => ?_, fun k hk => ?_⟩
        · show upd (upd Fm (126 + m) r) 12 (nI (m + 1)) i = F i
          rw [upd_ne h1]; exact hF2 i h2
        · have hk : (k : Int) < (upd (upd Fm (126 + m) r) 12 (nI (m + 1)) 12).toInt := hk
          rw [upd_at, nIt (by omega)] at hk
          have := hI2 k (by omega)
          show 0 ≤ (upd (upd Fm (126 + m) r) 12 (nI (m + 1)) (126 + 1 * k)).toInt ∧ (upd (upd Fm (126 + m) r) 12 (nI (m + 1)) (126 + 1 * k)).toInt < (upd (upd Fm (126 + m) r) 12 (nI (m + 1)) 6).toInt
          rw [upd_ne (by omega), upd_ne (show 6 ≠ 12 by omega), hF2 6 (by first | decide | omega), show 126 + 1 * k = 126 + k by omega]
          exact this
theorem inc_n {x : Int32} {m : Nat} (h : x.toInt = m) (hm : m < 900) : (x + 1).toInt = m + 1 := by
  have o1 : (1 : Int32).toInt = 1 := by decide
  rw [Int32.toInt_add, h, o1, Int.bmod_eq_of_le (by omega) (by omega)]
theorem RV_line {F T : Nat → Int32} {n a : Int32} {v : (Nat → Int32) × Int32} (hB : FIv F) (h12 : IV (F 12) 0 8) (f1 : ∀ j : Nat, j < 8 → (F 6).toInt ≤ j → ¬ 0 < (F (167 + j)).toInt) (f2 : ∀ j : Nat, j < 4 → (F 7).toInt ≤ j → ¬ 0 < (F (175 + j)).toInt) (hR : RV F) (h : lineS F T n a = .inr v) : RV v.1 := by
  have hB2 := hB
  obtain ⟨⟨i6, j6⟩, ⟨i7, j7⟩, ⟨i8, j8⟩, ⟨i9, j9⟩, ⟨i10, j10⟩, ⟨i11, j11⟩, ⟨i13, j13⟩, ⟨i14, j14⟩⟩ := hB2
  unfold lineS at h
  by_cases z0 : IsW T n a "house"
  case pos =>
    rw [if_pos z0] at h
    unfold houseS at h
    by_cases q : F 15 = 1
    · rw [if_pos q] at h; cases h
    rw [if_neg q] at h
    obtain ⟨w0, g0, h⟩ := bnd_i h
    obtain ⟨w1, g1, h⟩ := bnd_i h
    obtain ⟨w2, g2, h⟩ := bnd_i h
    obtain ⟨w3, g3, h⟩ := bnd_i h
    obtain ⟨w4, g4, h⟩ := bnd_i h
    obtain ⟨w5, g5, h⟩ := bnd_i h
    have e := Sum.inr.inj h
    rw [← e]
    refine RV_keep (G := (upd (upd (upd (upd (upd (upd (upd F 0 w0.1) 1 w1.1) 2 w2.1) 3 w3.1) 4 w4.1) 5 w5.1) 15 1)) hB h12 hR ?_ ?_ (fun i hi => ?_)
    · rw [upd_ne (by omega), upd_ne (by omega), upd_ne (by omega), upd_ne (by omega), upd_ne (by omega), upd_ne (by omega), upd_ne (by omega)]; omega
    · rw [upd_ne (by omega), upd_ne (by omega), upd_ne (by omega), upd_ne (by omega), upd_ne (by omega), upd_ne (by omega), upd_ne (by omega)]; omega
    · rw [upd_ne (by omega), upd_ne (by omega), upd_ne (by omega), upd_ne (by omega), upd_ne (by omega), upd_ne (by omega), upd_ne (by omega)]
  rw [if_neg z0] at h
  by_cases z1 : IsW T n a "reel"
  case pos =>
    rw [if_pos z1] at h
    obtain ⟨b, g, h⟩ := bnd_i h
    have lt := opn_i g
    have oc : (8 : Int32).toInt = 8 := by decide
    obtain ⟨m, hm⟩ : ∃ a : Nat, (F 6).toInt = a := ⟨(F 6).toInt.toNat, by omega⟩
    have em : (F 6).toInt.toNat = m := by omega
    have ein := inc_n hm (by omega)
    unfold reelS at h
    obtain ⟨w0, g0, h⟩ := bnd_i h
    obtain ⟨w1, g1, h⟩ := bnd_i h
    obtain ⟨w2, g2, h⟩ := bnd_i h
    obtain ⟨w3, g3, h⟩ := bnd_i h
    obtain ⟨n1, n2⟩ := new_inr g0
    have e := Sum.inr.inj h
    rw [← e]
    refine RV_keep (G := (upd (upd (upd (upd w0.1 (16 + 3 * (F 6).toInt.toNat) w1.1) (16 + 3 * (F 6).toInt.toNat + 1) w2.1) (16 + 3 * (F 6).toInt.toNat + 2) w3.1) 6 (F 6 + 1))) hB h12 hR ?_ ?_ (fun i hi => ?_)
    · rw [upd_at, ein]; omega
    · rw [upd_ne (by omega), upd_ne (by omega), upd_ne (by omega), upd_ne (by omega), n1, wrN_lt (by omega)]; omega
    · rw [upd_ne (by omega), upd_ne (by omega), upd_ne (by omega), upd_ne (by omega), n1, wrN_lt (by omega)]
  rw [if_neg z1] at h
  by_cases z2 : IsW T n a "town"
  case pos =>
    rw [if_pos z2] at h
    obtain ⟨b, g, h⟩ := bnd_i h
    have lt := opn_i g
    have oc : (4 : Int32).toInt = 4 := by decide
    obtain ⟨m, hm⟩ : ∃ a : Nat, (F 7).toInt = a := ⟨(F 7).toInt.toNat, by omega⟩
    have em : (F 7).toInt.toNat = m := by omega
    have ein := inc_n hm (by omega)
    unfold townS at h
    obtain ⟨w0, g0, h⟩ := bnd_i h
    obtain ⟨w1, g1, h⟩ := bnd_i h
    obtain ⟨n1, n2⟩ := new_inr g0
    have e := Sum.inr.inj h
    rw [← e]
    refine RV_keep (G := (upd (upd w0.1 (40 + (F 7).toInt.toNat) w1.1) 7 (F 7 + 1))) hB h12 hR ?_ ?_ (fun i hi => ?_)
    · rw [upd_ne (by omega), upd_ne (by omega), n1, wrN_lt (by omega)]; omega
    · rw [upd_at, ein]; omega
    · rw [upd_ne (by omega), upd_ne (by omega), n1, wrN_lt (by omega)]
  rw [if_neg z2] at h
  by_cases z3 : IsW T n a "mark"
  case pos =>
    rw [if_pos z3] at h
    obtain ⟨b, g, h⟩ := bnd_i h
    have lt := opn_i g
    have oc : (12 : Int32).toInt = 12 := by decide
    obtain ⟨m, hm⟩ : ∃ a : Nat, (F 8).toInt = a := ⟨(F 8).toInt.toNat, by omega⟩
    have em : (F 8).toInt.toNat = m := by omega
    have ein := inc_n hm (by omega)
    unfold markS at h
    obtain ⟨w0, g0, h⟩ := bnd_i h
    obtain ⟨w1, g1, h⟩ := bnd_i h
    obtain ⟨w2, g2, h⟩ := bnd_i h
    obtain ⟨w3, g3, h⟩ := bnd_i h
    have r1 := (reelP_inr g0).1
    have r2 := reelP_lt f1 g0
    have t := old_lt f2 g3
    by_cases q : Dup F 44 2 8 w0.1 w3
    · rw [if_pos q] at h; cases h
    rw [if_neg q] at h
    have e := Sum.inr.inj h
    rw [← e]
    skip
    refine RV_mark (G := (upd (upd (upd (upd F (44 + 3 * (F 8).toInt.toNat) w0.1) (44 + 3 * (F 8).toInt.toNat + 1) w1.1) (44 + 3 * (F 8).toInt.toNat + 2) w3) 8 (F 8 + 1))) (m := m) hB h12 hR hm (by omega) (by rw [upd_at, ein]) (fun i q1 q2 q3 => by rw [em, upd_ne (by omega), upd_ne (by omega), upd_ne (by omega), upd_ne (by omega)]) ?_ ?_
    · unfold Lt
      rw [em, upd_ne (by omega), upd_ne (by omega), upd_ne (by omega), upd_at, upd_ne (by omega), upd_ne (by omega), upd_ne (by omega), upd_ne (by omega)]
      exact ⟨r1.1, r2⟩
    · unfold Lt
      rw [em, upd_ne (by omega), upd_at, upd_ne (by omega), upd_ne (by omega), upd_ne (by omega), upd_ne (by omega)]
      exact ⟨t.1, t.2⟩
  rw [if_neg z3] at h
  by_cases z4 : IsW T n a "join"
  case pos =>
    rw [if_pos z4] at h
    obtain ⟨b, g, h⟩ := bnd_i h
    have lt := opn_i g
    have oc : (8 : Int32).toInt = 8 := by decide
    obtain ⟨m, hm⟩ : ∃ a : Nat, (F 9).toInt = a := ⟨(F 9).toInt.toNat, by omega⟩
    have em : (F 9).toInt.toNat = m := by omega
    have ein := inc_n hm (by omega)
    unfold joinS at h
    obtain ⟨w0, g0, h⟩ := bnd_i h
    obtain ⟨w1, g1, h⟩ := bnd_i h
    obtain ⟨w2, g2, h⟩ := bnd_i h
    have r1 := (reelP_inr g0).1
    have r2 := reelP_lt f1 g0
    have e := Sum.inr.inj h
    rw [← e]
    skip
    refine RV_join (G := (upd (upd (upd F (80 + 2 * (F 9).toInt.toNat) w0.1) (80 + 2 * (F 9).toInt.toNat + 1) w2.1) 9 (F 9 + 1))) (m := m) hB h12 hR hm (by omega) (by rw [upd_at, ein]) (fun i q1 q2 q3 => by rw [em, upd_ne (by omega), upd_ne (by omega), upd_ne (by omega)]) ?_
    · unfold Lt
      rw [em, upd_ne (by omega), upd_ne (by omega), upd_at, upd_ne (by omega), upd_ne (by omega), upd_ne (by omega)]
      exact ⟨r1.1, r2⟩
  rw [if_neg z4] at h
  by_cases z5 : IsW T n a "weak"
  case pos =>
    rw [if_pos z5] at h
    obtain ⟨b, g, h⟩ := bnd_i h
    have lt := opn_i g
    have oc : (6 : Int32).toInt = 6 := by decide
    obtain ⟨m, hm⟩ : ∃ a : Nat, (F 10).toInt = a := ⟨(F 10).toInt.toNat, by omega⟩
    have em : (F 10).toInt.toNat = m := by omega
    have ein := inc_n hm (by omega)
    unfold weakS at h
    obtain ⟨w0, g0, h⟩ := bnd_i h
    obtain ⟨w1, g1, h⟩ := bnd_i h
    have r1 := (reelP_inr g0).1
    have r2 := reelP_lt f1 g0
    by_cases q : Dup F 96 1 10 w0.1 w1
    · rw [if_pos q] at h; cases h
    rw [if_neg q] at h
    obtain ⟨w2, g2, h⟩ := bnd_i h
    have e := Sum.inr.inj h
    rw [← e]
    skip
    refine RV_weak (G := (upd (upd (upd (upd F (96 + 3 * (F 10).toInt.toNat) w0.1) (96 + 3 * (F 10).toInt.toNat + 1) w1) (96 + 3 * (F 10).toInt.toNat + 2) w2.1) 10 (F 10 + 1))) (m := m) hB h12 hR hm (by omega) (by rw [upd_at, ein]) (fun i q1 q2 q3 => by rw [em, upd_ne (by omega), upd_ne (by omega), upd_ne (by omega), upd_ne (by omega)]) ?_
    · unfold Lt
      rw [em, upd_ne (by omega), upd_ne (by omega), upd_ne (by omega), upd_at, upd_ne (by omega), upd_ne (by omega), upd_ne (by omega), upd_ne (by omega)]
      exact ⟨r1.1, r2⟩
  rw [if_neg z5] at h
  by_cases z6 : IsW T n a "man"
  case pos =>
    rw [if_pos z6] at h
    obtain ⟨b, g, h⟩ := bnd_i h
    have lt := opn_i g
    have oc : (4 : Int32).toInt = 4 := by decide
    obtain ⟨m, hm⟩ : ∃ a : Nat, (F 11).toInt = a := ⟨(F 11).toInt.toNat, by omega⟩
    have em : (F 11).toInt.toNat = m := by omega
    have ein := inc_n hm (by omega)
    unfold manS at h
    obtain ⟨w0, g0, h⟩ := bnd_i h
    obtain ⟨n1, n2⟩ := new_inr g0
    by_cases q0 : IsW T n w0.2 "clean"
    case pos =>
      rw [if_pos q0] at h
      unfold manE at h
      obtain ⟨w9, g9, h⟩ := bnd_i h
      have e := Sum.inr.inj h
      rw [← e]
      refine RV_man (G := (upd (upd (upd (upd w0.1 (114 + 3 * (F 11).toInt.toNat) 0) (114 + 3 * (F 11).toInt.toNat + 1) 0) (114 + 3 * (F 11).toInt.toNat + 2) w9.1) 11 (F 11 + 1))) (m := m) hB h12 hR hm (by omega) (by rw [upd_at, ein]) (fun i q1 q2 q3 => by rw [em, upd_ne (by omega), upd_ne (by omega), upd_ne (by omega), upd_ne (by omega), n1, wrN_lt q1]) (fun z => ?_)
      rw [em, upd_ne (by omega), upd_ne (by omega), upd_ne (by omega), upd_at] at z
      exact absurd z (by decide)
    rw [if_neg q0] at h
    by_cases q1 : IsW T n w0.2 "early"
    case pos =>
      rw [if_pos q1] at h
      unfold manE at h
      obtain ⟨w9, g9, h⟩ := bnd_i h
      have e := Sum.inr.inj h
      rw [← e]
      refine RV_man (G := (upd (upd (upd (upd w0.1 (114 + 3 * (F 11).toInt.toNat) 1) (114 + 3 * (F 11).toInt.toNat + 1) 0) (114 + 3 * (F 11).toInt.toNat + 2) w9.1) 11 (F 11 + 1))) (m := m) hB h12 hR hm (by omega) (by rw [upd_at, ein]) (fun i q1 q2 q3 => by rw [em, upd_ne (by omega), upd_ne (by omega), upd_ne (by omega), upd_ne (by omega), n1, wrN_lt q1]) (fun z => ?_)
      rw [em, upd_ne (by omega), upd_ne (by omega), upd_ne (by omega), upd_at] at z
      exact absurd z (by decide)
    rw [if_neg q1] at h
    by_cases q2 : IsW T n w0.2 "late"
    case pos =>
      rw [if_pos q2] at h
      unfold manE at h
      obtain ⟨w9, g9, h⟩ := bnd_i h
      have e := Sum.inr.inj h
      rw [← e]
      refine RV_man (G := (upd (upd (upd (upd w0.1 (114 + 3 * (F 11).toInt.toNat) 2) (114 + 3 * (F 11).toInt.toNat + 1) 0) (114 + 3 * (F 11).toInt.toNat + 2) w9.1) 11 (F 11 + 1))) (m := m) hB h12 hR hm (by omega) (by rw [upd_at, ein]) (fun i q1 q2 q3 => by rw [em, upd_ne (by omega), upd_ne (by omega), upd_ne (by omega), upd_ne (by omega), n1, wrN_lt q1]) (fun z => ?_)
      rw [em, upd_ne (by omega), upd_ne (by omega), upd_ne (by omega), upd_at] at z
      exact absurd z (by decide)
    rw [if_neg q2] at h
    by_cases q3 : IsW T n w0.2 "misled"
    case neg => rw [if_neg q3] at h; cases h
    rw [if_pos q3] at h
    obtain ⟨tw, gt, h⟩ := bnd_i h
    have t := old_lt (F := w0.1) (fun j hj hj2 => by
      rw [n1] at hj2 ⊢
      rw [wrN_lt (by omega)] at hj2
      have e : wrN F T n b (12 + (F 11).toInt.toNat) (175 + j) = F (175 + j) := by
        unfold wrN
        rw [upd_ne (by omega), wrL_lt _ _ (by omega)]
      rw [e]; exact f2 j hj hj2) gt
    rw [n1, wrN_lt (by omega)] at t
    unfold manE at h
    obtain ⟨w9, g9, h⟩ := bnd_i h
    have e := Sum.inr.inj h
    rw [← e]
    refine RV_man (G := (upd (upd (upd (upd w0.1 (114 + 3 * (F 11).toInt.toNat) 3) (114 + 3 * (F 11).toInt.toNat + 1) tw) (114 + 3 * (F 11).toInt.toNat + 2) w9.1) 11 (F 11 + 1))) (m := m) hB h12 hR hm (by omega) (by rw [upd_at, ein]) (fun i q1 q2 q3 => by rw [em, upd_ne (by omega), upd_ne (by omega), upd_ne (by omega), upd_ne (by omega), n1, wrN_lt q1]) (fun z => ?_)
    unfold Lt
    rw [em, upd_ne (by omega), upd_ne (by omega), upd_at, upd_ne (by omega), upd_ne (by omega), upd_ne (by omega), upd_ne (by omega), n1, wrN_lt (by omega)]
    exact t
  rw [if_neg z6] at h
  by_cases z7 : IsW T n a "shows"
  case pos =>
    rw [if_pos z7] at h
    obtain ⟨b, g, h⟩ := bnd_i h
    obtain ⟨s1, s2⟩ := shG_RV f1 9 0 F b v (by omega) (fun i _ => rfl) (fun k hk => by omega) h
    exact RV_shows hB h12 hR s1 s2
  rw [if_neg z7] at h
  by_cases z8 : IsW T n a "boys"
  case pos =>
    rw [if_pos z8] at h
    obtain ⟨b, g, h⟩ := bnd_i h
    unfold boysS at h
    obtain ⟨w0, g0, h⟩ := bnd_i h
    obtain ⟨w1, g1, h⟩ := bnd_i h
    obtain ⟨w2, g2, h⟩ := bnd_i h
    have e := Sum.inr.inj h
    rw [← e]
    refine RV_keep (G := (upd (upd (upd F 135 w1.1) 136 w2.1) 134 w0.1)) hB h12 hR ?_ ?_ (fun i hi => ?_)
    · rw [upd_ne (by omega), upd_ne (by omega), upd_ne (by omega)]; omega
    · rw [upd_ne (by omega), upd_ne (by omega), upd_ne (by omega)]; omega
    · rw [upd_ne (by omega), upd_ne (by omega), upd_ne (by omega)]
  rw [if_neg z8] at h
  by_cases z9 : IsW T n a "seen"
  case pos =>
    rw [if_pos z9] at h
    unfold seenS at h
    by_cases q : F 13 = 6
    · rw [if_pos q] at h; cases h
    rw [if_neg q] at h
    by_cases q2 : F 15 = 0
    · rw [if_pos q2] at h; cases h
    rw [if_neg q2] at h
    by_cases q3 : F 12 = 0
    · rw [if_pos q3] at h; cases h
    rw [if_neg q3] at h
    have b13 := hB.2.2.2.2.2.2.1
    rw [IV] at b13
    have o6 : (6 : Int32).toInt = 6 := by decide
    have n13 : (F 13).toInt ≠ 6 := fun w => q (Int32.toInt_inj.mp (by rw [w, o6]))
    obtain ⟨w0, g0, h⟩ := bnd_i h
    obtain ⟨w1, g1, h⟩ := bnd_i h
    obtain ⟨w2, g2, h⟩ := bnd_i h
    have e := Sum.inr.inj h
    rw [← e]
    refine RV_keep (G := (upd (upd (upd (upd F (137 + 3 * (F 13).toInt.toNat) w0.1) (137 + 3 * (F 13).toInt.toNat + 1) w1.1) (137 + 3 * (F 13).toInt.toNat + 2) w2.1) 13 (F 13 + 1))) hB h12 hR ?_ ?_ (fun i hi => ?_)
    · rw [upd_ne (by omega), upd_ne (by omega), upd_ne (by omega), upd_ne (by omega)]; omega
    · rw [upd_ne (by omega), upd_ne (by omega), upd_ne (by omega), upd_ne (by omega)]; omega
    · rw [upd_ne (by omega), upd_ne (by omega), upd_ne (by omega), upd_ne (by omega)]
  rw [if_neg z9] at h
  by_cases z10 : IsW T n a "scratch"
  case pos =>
    rw [if_pos z10] at h
    obtain ⟨b, g, h⟩ := bnd_i h
    have lt := opn_i g
    have oc : (6 : Int32).toInt = 6 := by decide
    obtain ⟨m, hm⟩ : ∃ a : Nat, (F 14).toInt = a := ⟨(F 14).toInt.toNat, by omega⟩
    have em : (F 14).toInt.toNat = m := by omega
    have ein := inc_n hm (by omega)
    unfold scratchS at h
    obtain ⟨w0, g0, h⟩ := bnd_i h
    obtain ⟨w1, g1, h⟩ := bnd_i h
    have r1 := (reelP_inr g0).1
    have r2 := reelP_lt f1 g0
    have e := Sum.inr.inj h
    rw [← e]
    skip
    refine RV_scratch (G := (upd (upd (upd F (155 + 2 * (F 14).toInt.toNat) w0.1) (155 + 2 * (F 14).toInt.toNat + 1) w1.1) 14 (F 14 + 1))) (m := m) hB h12 hR hm (by omega) (by rw [upd_at, ein]) (fun i q1 q2 q3 => by rw [em, upd_ne (by omega), upd_ne (by omega), upd_ne (by omega)]) ?_
    · unfold Lt
      rw [em, upd_ne (by omega), upd_ne (by omega), upd_at, upd_ne (by omega), upd_ne (by omega), upd_ne (by omega)]
      exact ⟨r1.1, r2⟩
  rw [if_neg z10] at h
  cases h
