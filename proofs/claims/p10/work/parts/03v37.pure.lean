set_option maxRecDepth 100000
set_option maxHeartbeats 4000000
/-- frames at place k -/
def frN (F S : Nat → Int32) (k : Nat) : Int32 := S (F (126 + k)).toInt.toNat
def nlost (a : Int32) : Int32 := if a < 0 then 0 else a
def nblack (a : Int32) : Int32 := if -a < 0 then 0 else -a
def nstart (F S : Nat → Int32) (mi : Nat) (sl : Int32) (k : Nat) (a : Int32) : Int32 := if nlost a < (if frN F S k - 1 < bel F S mi (F (126 + k)) + sl then frN F S k - 1 else bel F S mi (F (126 + k)) + sl) then (if frN F S k - 1 < bel F S mi (F (126 + k)) + sl then frN F S k - 1 else bel F S mi (F (126 + k)) + sl) else nlost a
def nchange (F S : Nat → Int32) (mi : Nat) (sl : Int32) (N k : Nat) (a : Int32) : Int32 := if k + 1 < N then (if frN F S k < nstart F S mi sl k a + F 0 then frN F S k else nstart F S mi sl k a + F 0) else frN F S k
/-- a night: the tick, the motor's tick, how far ahead, from place to place -/
def nst (F S : Nat → Int32) (mi : Nat) (sl : Int32) (N k : Nat) (a : Int32 × Int32 × Int32) : Int32 × Int32 × Int32 :=
  if frN F S k ≤ a.2.2 then (a.1, a.1, 0) else if k + 1 < N then (a.1 + nblack a.2.2 + nchange F S mi sl N k a.2.2 - nlost a.2.2, a.1 + nblack a.2.2 + nstart F S mi sl k a.2.2 - nlost a.2.2, nchange F S mi sl N k a.2.2 - nstart F S mi sl k a.2.2 - F 1 - S (34 + (k + 1))) else (a.1 + nblack a.2.2 + nchange F S mi sl N k a.2.2 - nlost a.2.2, a.2.1, a.2.2)
def NTK (F S : Nat → Int32) (mi : Nat) (sl : Int32) (N k : Nat) : Int32 × Int32 × Int32 := fo (nst F S mi sl N) 0 k (0, 0, 0)
theorem NTK_s {F S : Nat → Int32} {mi N k : Nat} {sl : Int32} : NTK F S mi sl N (k + 1) = nst F S mi sl N k (NTK F S mi sl N k) := by
  unfold NTK
  rw [fo_snoc, Nat.zero_add]
/-- what a night tells of place k, by columns -/
def nrw (F S : Nat → Int32) (mi : Nat) (sl : Int32) (N k : Nat) (a : Int32 × Int32 × Int32) : Nat → Int32
  | 0 => if frN F S k ≤ a.2.2 then frN F S k else nlost a.2.2
  | 1 => if frN F S k ≤ a.2.2 then 0 else nblack a.2.2
  | 2 => if frN F S k ≤ a.2.2 then 0 else frN F S k - nchange F S mi sl N k a.2.2
  | 3 => if frN F S k ≤ a.2.2 then 1 else 0
  | 4 => if frN F S k ≤ a.2.2 then -2 else if k + 1 < N then nstart F S mi sl k a.2.2 else -2
  | 5 => if frN F S k ≤ a.2.2 then 0 else nchange F S mi sl N k a.2.2
  | 6 => if frN F S k ≤ a.2.2 then a.1 else a.1 + nblack a.2.2
  | 7 => (nst F S mi sl N k a).1
  | 8 => a.2.1
  | _ => 0
theorem nrw_0 {F S : Nat → Int32} {mi N k : Nat} {sl : Int32} {a : Int32 × Int32 × Int32} : nrw F S mi sl N k a 0 = (if frN F S k ≤ a.2.2 then frN F S k else nlost a.2.2) := rfl
theorem nrw_1 {F S : Nat → Int32} {mi N k : Nat} {sl : Int32} {a : Int32 × Int32 × Int32} : nrw F S mi sl N k a 1 = (if frN F S k ≤ a.2.2 then 0 else nblack a.2.2) := rfl
theorem nrw_2 {F S : Nat → Int32} {mi N k : Nat} {sl : Int32} {a : Int32 × Int32 × Int32} : nrw F S mi sl N k a 2 = (if frN F S k ≤ a.2.2 then 0 else frN F S k - nchange F S mi sl N k a.2.2) := rfl
theorem nrw_3 {F S : Nat → Int32} {mi N k : Nat} {sl : Int32} {a : Int32 × Int32 × Int32} : nrw F S mi sl N k a 3 = (if frN F S k ≤ a.2.2 then 1 else 0) := rfl
theorem nrw_4 {F S : Nat → Int32} {mi N k : Nat} {sl : Int32} {a : Int32 × Int32 × Int32} : nrw F S mi sl N k a 4 = (if frN F S k ≤ a.2.2 then -2 else if k + 1 < N then nstart F S mi sl k a.2.2 else -2) := rfl
theorem nrw_5 {F S : Nat → Int32} {mi N k : Nat} {sl : Int32} {a : Int32 × Int32 × Int32} : nrw F S mi sl N k a 5 = (if frN F S k ≤ a.2.2 then 0 else nchange F S mi sl N k a.2.2) := rfl
theorem nrw_6 {F S : Nat → Int32} {mi N k : Nat} {sl : Int32} {a : Int32 × Int32 × Int32} : nrw F S mi sl N k a 6 = (if frN F S k ≤ a.2.2 then a.1 else a.1 + nblack a.2.2) := rfl
theorem nrw_7 {F S : Nat → Int32} {mi N k : Nat} {sl : Int32} {a : Int32 × Int32 × Int32} : nrw F S mi sl N k a 7 = ((nst F S mi sl N k a).1) := rfl
abbrev NR (F S : Nat → Int32) (mi : Nat) (sl : Int32) (N k c : Nat) : Int32 := nrw F S mi sl N k (NTK F S mi sl N k) c
theorem puN {f : Nat → Int32} {m j : Nat} {c v : Int32} (hc : c.toInt = j) (hm : m < 8) (hj : j < 10) : tbPut 8 10 f (nI m) c v = upd f (10 * m + j) v := by
  have e : (nI m).toInt = m := nI_toInt (by omega)
  have o8 : (8 : Int32).toInt = 8 := by decide
  have o10 : (10 : Int32).toInt = 10 := by decide
  rw [tbPut_in (by decide) (by decide) (by omega) (by omega), e, hc, o10]
  congr 1
  rw [Int.toNat_natCast, Int.toNat_natCast, show (10 : Int).toNat = 10 from rfl, Nat.mul_comm]
theorem last_n {m N : Nat} (hN : 1 ≤ N) (hN8 : N ≤ 8) (hm : m ≤ 1000) : (nI N - 1 ≤ nI m) ↔ ¬ m + 1 < N := by
  have e : (nI N - 1).toInt = N - 1 := by rw [subI (by rw [nI_toInt (by omega), oneI]; omega) (by rw [nI_toInt (by omega), oneI]; omega), nI_toInt (by omega), oneI]
  rw [le_I, e, nI_toInt (by omega)]; omega
theorem show_c {F S yhnf zpf f g : Nat → Int32} {mi m N : Nat} {ms sl sd tk mt ah sd2 tk2 mt2 ah2 : Int32} (hm : m < N) (hN8 : N ≤ 8) (e0 : yhnf 0 = F 0) (e1 : yhnf 1 = F 1) (ep : m + 1 < N → zpf (2 * (m + 1) + 1) = S (34 + (m + 1))) (eb : f (10 * m + 9) = bel F S mi (F (126 + m))) (ng : ¬ frN F S m ≤ ah) (h : R_n_showReelX (nI m) (frN F S m) ms sl 0 sd tk mt ah (nI N) f yhnf zpf sd2 tk2 mt2 ah2 g) : sd2 = sd ∧ (tk2, mt2, ah2) = nst F S mi sl N m (tk, mt, ah) ∧ g = (upd (upd (upd (upd (upd (upd (upd (upd f (10 * m + 0) (nrw F S mi sl N m (tk, mt, ah) 0)) (10 * m + 1) (nrw F S mi sl N m (tk, mt, ah) 1)) (10 * m + 2) (nrw F S mi sl N m (tk, mt, ah) 2)) (10 * m + 3) (nrw F S mi sl N m (tk, mt, ah) 3)) (10 * m + 4) (nrw F S mi sl N m (tk, mt, ah) 4)) (10 * m + 5) (nrw F S mi sl N m (tk, mt, ah) 5)) (10 * m + 6) (nrw F S mi sl N m (tk, mt, ah) 6)) (10 * m + 7) (nrw F S mi sl N m (tk, mt, ah) 7)) := by
  unfold R_n_showReelX at h
  obtain ⟨z1, hz1, z2, hz2, z3, hz3, z4, hz4, z6, hz6, h⟩ := h
  have k1 : z1 = nlost ah := hz1
  have k3 : z3 = nblack ah := by rw [hz3, hz2]; rfl
  rw [hz6, last_n (by omega) hN8 (by omega)] at h
  simp only [nrw_0, nrw_1, nrw_2, nrw_3, nrw_4, nrw_5, nrw_6, nrw_7, nst, if_neg ng]
  rcases h with ⟨q, z10, hz10, z12, hz12, f1, hf1, f2, hf2, z20, hz20, f3, hf3, f4, hf4, f5, hf5, f6, hf6, f7, hf7, f8, hf8, r1, r2, r3, r4, r5⟩ | ⟨q, x43, hx43, s45, r46, hsl, z48, hz48, z50, hz50, z52, hz52, z53, hz53, r54, hr54, z56, hz56, z58, hz58, z59, hz59, z61, hz61, z63, hz63, r65, hr65, z67, hz67, z69, hz69, r72, hr72, z74, hz74, z76, hz76, z78, hz78, f1, hf1, f2, hf2, z86, hz86, f3, hf3, f4, hf4, f5, hf5, f6, hf6, f7, hf7, f8, hf8, r1, r2, r3, r4, r5⟩
  · have kc : nchange F S mi sl N m ah = frN F S m := by unfold nchange; rw [if_neg q]
    rw [if_neg q, if_neg q, kc]
    rw [puN (c := 0) (j := 0) (by decide) (show m < 8 by omega) (by omega)] at hf1
    rw [puN (c := 1) (j := 1) (by decide) (show m < 8 by omega) (by omega)] at hf2
    rw [puN (c := 2) (j := 2) (by decide) (show m < 8 by omega) (by omega)] at hf3
    rw [puN (c := 3) (j := 3) (by decide) (show m < 8 by omega) (by omega)] at hf4
    rw [puN (c := 4) (j := 4) (by decide) (show m < 8 by omega) (by omega)] at hf5
    rw [puN (c := 5) (j := 5) (by decide) (show m < 8 by omega) (by omega)] at hf6
    rw [puN (c := 6) (j := 6) (by decide) (show m < 8 by omega) (by omega)] at hf7
    rw [puN (c := 7) (j := 7) (by decide) (show m < 8 by omega) (by omega)] at hf8
    refine ⟨r1, by rw [r2, r3, r4, hz12, hz10, hz4, k1, k3], ?_⟩
    rw [r5, hf8, hf7, hf6, hf5, hf4, hf3, hf2, hf1, hz20, hz12, hz10, hz4, k1, k3]
  · have q : m + 1 < N := Decidable.not_not.mp q
    unfold R_n_slipNowX at hsl
    rcases hsl with ⟨-, w1, w2⟩ | ⟨w, -⟩
    case inr => exact absurd rfl w
    rw [tbN (R := 8) (V := 10) (c := 9) (a := 8) (b := 10) (j := 9) (by decide) (by decide) (by omega) (by omega) (by decide) (by omega) (by omega), eb] at hx43
    have k54 := (h_num (j := 0) (by decide) (by omega)).mp hr54
    have k65 := (h_num (j := 1) (by decide) (by omega)).mp hr65
    rw [e0] at k54
    rw [e1] at k65
    have k69 : z69 = nI (m + 1) := by rw [hz69]; exact nI_s1 (by omega)
    rw [k69, tbN (R := 8) (V := 2) (c := 1) (a := 8) (b := 2) (j := 1) (by decide) (by decide) (by omega) (by omega) (by decide) (by omega) (by omega), ep q] at hr72
    have k53 : z53 = nstart F S mi sl m ah := by
      rw [hz53, hz52, hz50, hz48, hx43, w2, k1]
      rfl
    have k58 : z58 = nchange F S mi sl N m ah := by
      unfold nchange
      rw [if_pos q, hz58, hz56, k53, k54]
    rw [if_pos q, if_pos q]
    rw [puN (c := 0) (j := 0) (by decide) (show m < 8 by omega) (by omega)] at hf1
    rw [puN (c := 1) (j := 1) (by decide) (show m < 8 by omega) (by omega)] at hf2
    rw [puN (c := 2) (j := 2) (by decide) (show m < 8 by omega) (by omega)] at hf3
    rw [puN (c := 3) (j := 3) (by decide) (show m < 8 by omega) (by omega)] at hf4
    rw [puN (c := 4) (j := 4) (by decide) (show m < 8 by omega) (by omega)] at hf5
    rw [puN (c := 5) (j := 5) (by decide) (show m < 8 by omega) (by omega)] at hf6
    rw [puN (c := 6) (j := 6) (by decide) (show m < 8 by omega) (by omega)] at hf7
    rw [puN (c := 7) (j := 7) (by decide) (show m < 8 by omega) (by omega)] at hf8
    refine ⟨r1.trans w1, by rw [r2, r3, r4, hz78, hz76, hz74, hz67, hz63, hz61, hz59, hr72, hz4, k58, k53, k65, k1, k3], ?_⟩
    rw [r5, hf8, hf7, hf6, hf5, hf4, hf3, hf2, hf1, hz86, hz78, hz76, hz4, k58, k53, k1, k3]
theorem goBy_c {F S f g : Nat → Int32} {mi m N : Nat} {sl tk mt ah mt2 ah2 : Int32} (hm : m < N) (hN8 : N ≤ 8) (ng : frN F S m ≤ ah) (h : R_n_goByX (nI m) (frN F S m) tk f mt2 ah2 g) : (tk, mt2, ah2) = nst F S mi sl N m (tk, mt, ah) ∧ g = (upd (upd (upd (upd (upd (upd (upd (upd f (10 * m + 0) (nrw F S mi sl N m (tk, mt, ah) 0)) (10 * m + 1) (nrw F S mi sl N m (tk, mt, ah) 1)) (10 * m + 2) (nrw F S mi sl N m (tk, mt, ah) 2)) (10 * m + 3) (nrw F S mi sl N m (tk, mt, ah) 3)) (10 * m + 4) (nrw F S mi sl N m (tk, mt, ah) 4)) (10 * m + 5) (nrw F S mi sl N m (tk, mt, ah) 5)) (10 * m + 6) (nrw F S mi sl N m (tk, mt, ah) 6)) (10 * m + 7) (nrw F S mi sl N m (tk, mt, ah) 7)) := by
  unfold R_n_goByX at h
  obtain ⟨f1, hf1, f2, hf2, f3, hf3, f4, hf4, f5, hf5, f6, hf6, f7, hf7, f8, hf8, r3, r4, r5⟩ := h
  rw [puN (c := 0) (j := 0) (by decide) (show m < 8 by omega) (by omega)] at hf1
  rw [puN (c := 1) (j := 1) (by decide) (show m < 8 by omega) (by omega)] at hf2
  rw [puN (c := 2) (j := 2) (by decide) (show m < 8 by omega) (by omega)] at hf3
  rw [puN (c := 3) (j := 3) (by decide) (show m < 8 by omega) (by omega)] at hf4
  rw [puN (c := 4) (j := 4) (by decide) (show m < 8 by omega) (by omega)] at hf5
  rw [puN (c := 5) (j := 5) (by decide) (show m < 8 by omega) (by omega)] at hf6
  rw [puN (c := 6) (j := 6) (by decide) (show m < 8 by omega) (by omega)] at hf7
  rw [puN (c := 7) (j := 7) (by decide) (show m < 8 by omega) (by omega)] at hf8
  simp only [nrw_0, nrw_1, nrw_2, nrw_3, nrw_4, nrw_5, nrw_6, nrw_7, nst, if_pos ng]
  exact ⟨by rw [r3, r4], by rw [r5, hf8, hf7, hf6, hf5, hf4, hf3, hf2, hf1]⟩
theorem w8_at {f : Nat → Int32} {v : Nat → Int32} {m : Nat} : (∀ c : Nat, c < 8 → (upd (upd (upd (upd (upd (upd (upd (upd f (10 * m + 0) (v 0)) (10 * m + 1) (v 1)) (10 * m + 2) (v 2)) (10 * m + 3) (v 3)) (10 * m + 4) (v 4)) (10 * m + 5) (v 5)) (10 * m + 6) (v 6)) (10 * m + 7) (v 7)) (10 * m + c) = v c) ∧ (∀ i : Nat, (i < 10 * m ∨ 10 * m + 8 ≤ i) → (upd (upd (upd (upd (upd (upd (upd (upd f (10 * m + 0) (v 0)) (10 * m + 1) (v 1)) (10 * m + 2) (v 2)) (10 * m + 3) (v 3)) (10 * m + 4) (v 4)) (10 * m + 5) (v 5)) (10 * m + 6) (v 6)) (10 * m + 7) (v 7)) i = f i) := by
  refine ⟨fun c hc => ?_, fun i hi => ?_⟩
  · match c, hc with
    | 0, _ => rw [upd_ne (by omega), upd_ne (by omega), upd_ne (by omega), upd_ne (by omega), upd_ne (by omega), upd_ne (by omega), upd_ne (by omega), upd_at]
    | 1, _ => rw [upd_ne (by omega), upd_ne (by omega), upd_ne (by omega), upd_ne (by omega), upd_ne (by omega), upd_ne (by omega), upd_at]
    | 2, _ => rw [upd_ne (by omega), upd_ne (by omega), upd_ne (by omega), upd_ne (by omega), upd_ne (by omega), upd_at]
    | 3, _ => rw [upd_ne (by omega), upd_ne (by omega), upd_ne (by omega), upd_ne (by omega), upd_at]
    | 4, _ => rw [upd_ne (by omega), upd_ne (by omega), upd_ne (by omega), upd_at]
    | 5, _ => rw [upd_ne (by omega), upd_ne (by omega), upd_at]
    | 6, _ => rw [upd_ne (by omega), upd_at]
    | 7, _ => rw [upd_at]
  · rw [upd_ne (by omega), upd_ne (by omega), upd_ne (by omega), upd_ne (by omega), upd_ne (by omega), upd_ne (by omega), upd_ne (by omega), upd_ne (by omega)]
theorem snap_0 {r sn sd md wn sd2 sn2 : Int32} {yhnf zwf : Nat → Int32} (h : R_n_snapWeakPlacesX r sn 0 sd yhnf md wn zwf sd2 sn2) : sd2 = sd ∧ sn2 = sn := by
  unfold R_n_snapWeakPlacesX at h
  obtain ⟨t, h⟩ := h
  cases t with
  | zero => exact h.elim
  | succ t =>
    rw [R_n_snapWeakPlacesX_L0] at h
    rcases h with ⟨-, h⟩ | ⟨w, -⟩
    · exact h
    · exact absurd rfl w
theorem run_c_L {F S yhnf zrf zpf zwf : Nat → Int32} {mi N : Nat} {ms sl zmd zwn : Int32} {κ : Int32 → Int32 → Int32 → Int32 → Int32 → (Nat → Int32) → Prop} (hN8 : N ≤ 8) (e0 : yhnf 0 = F 0) (e1 : yhnf 1 = F 1) (b6 : (F 6).toInt ≤ 8) (hr : ∀ k : Nat, k < N → 0 ≤ (F (126 + k)).toInt ∧ (F (126 + k)).toInt < (F 6).toInt) (h1 : ∀ k : Nat, (k : Int) < (F 6).toInt → zrf (3 * k) = S k ∧ zrf (3 * k + 1) = S (8 + k) ∧ zrf (3 * k + 2) = F (16 + 3 * k + 2)) (h4 : ∀ k : Nat, k < N → zpf (2 * k) = F (126 + k) ∧ zpf (2 * k + 1) = S (34 + k)) : ∀ (t : Nat) (f : Nat → Int32) (m : Nat) (u4 u5 u6 u7 u8 : Int32), m ≤ N → (∀ k c : Nat, k < m → c < 9 → f (10 * k + c) = NR F S mi sl N k c) → (∀ k : Nat, k < N → f (10 * k + 9) = bel F S mi (F (126 + k))) → (u6, u7, u8) = NTK F S mi sl N m → R_n_runX_L0 ms sl 0 (nI N) yhnf zmd zrf zpf zwn zwf κ t f (nI m) u4 u5 u6 u7 u8 → ∃ g : Nat → Int32, κ u4 u5 (NTK F S mi sl N N).1 (NTK F S mi sl N N).2.1 (NTK F S mi sl N N).2.2 g ∧ (∀ k c : Nat, k < N → c < 9 → g (10 * k + c) = NR F S mi sl N k c) ∧ (∀ k : Nat, k < N → g (10 * k + 9) = bel F S mi (F (126 + k))) := by
  intro t
  induction t with
  | zero => intro f m u4 u5 u6 u7 u8 _ _ _ _ h; exact h.elim
  | succ t ih =>
    intro f m u4 u5 u6 u7 u8 hm hI h9 hu h
    rw [R_n_runX_L0] at h
    rcases h with ⟨q, h⟩ | ⟨q, fa, hfa, r20, hr20, r22, hr22, h⟩
    · rw [nI_gE (by omega) (by omega)] at q
      obtain rfl : m = N := by omega
      refine ⟨f, ?_, hI, h9⟩
      rw [← hu]
      exact h
    · rw [nI_gE (by omega) (by omega)] at q
      have hm2 : m < N := by omega
      rw [puN (c := 8) (j := 8) (by decide) (by omega) (by omega)] at hfa
      have reel : ∀ r : Int32, R_s_reelAtX (nI m) zpf r → r = F (126 + m) := by
        intro r hr3
        unfold R_s_reelAtX at hr3
        simp only [exists_eq_left] at hr3
        rw [hr3, tbN (R := 8) (V := 2) (c := 0) (a := 8) (b := 2) (j := 0) (by decide) (by decide) (by omega) (by omega) (by decide) (by omega) (by omega), Nat.add_zero, (h4 m hm2).1]
      have er := reel r20 hr20
      obtain ⟨g1, g2⟩ := hr m hm2
      obtain ⟨ρ, eρ, hρ⟩ := nI_oF g1
      have efr : r22 = frN F S m := by
        rw [hr22, er, eρ, tbN (R := 8) (V := 3) (c := 0) (a := 8) (b := 3) (j := 0) (by decide) (by decide) (by omega) (by omega) (by decide) (by omega) (by omega), Nat.add_zero, (h1 ρ (by omega)).1]
        unfold frN
        rw [hρ, Int.toNat_natCast]
      subst efr
      have f9 : fa (10 * m + 9) = bel F S mi (F (126 + m)) := by rw [hfa, upd_ne (by omega)]; exact h9 m hm2
      have eNS : NTK F S mi sl N m = (u6, u7, u8) := hu.symm
      have fin : ∀ g : Nat → Int32, g = (upd (upd (upd (upd (upd (upd (upd (upd fa (10 * m + 0) (nrw F S mi sl N m (u6, u7, u8) 0)) (10 * m + 1) (nrw F S mi sl N m (u6, u7, u8) 1)) (10 * m + 2) (nrw F S mi sl N m (u6, u7, u8) 2)) (10 * m + 3) (nrw F S mi sl N m (u6, u7, u8) 3)) (10 * m + 4) (nrw F S mi sl N m (u6, u7, u8) 4)) (10 * m + 5) (nrw F S mi sl N m (u6, u7, u8) 5)) (10 * m + 6) (nrw F S mi sl N m (u6, u7, u8) 6)) (10 * m + 7) (nrw F S mi sl N m (u6, u7, u8) 7)) → (∀ k c : Nat, k < m + 1 → c < 9 → g (10 * k + c) = NR F S mi sl N k c) ∧ (∀ k : Nat, k < N → g (10 * k + 9) = bel F S mi (F (126 + k))) := by
        intro g eg
        obtain ⟨w1, w2⟩ := w8_at (f := fa) (v := nrw F S mi sl N m (u6, u7, u8)) (m := m)
        rw [← eg] at w1 w2
        refine ⟨fun k c hk hc => ?_, fun k hk => ?_⟩
        · by_cases e : k = m
          · subst e
            show g (10 * k + c) = nrw F S mi sl N k (NTK F S mi sl N k) c
            rw [eNS]
            by_cases e8 : c = 8
            · subst e8
              rw [w2 _ (by omega), hfa, upd_at]
              rfl
            · exact w1 c (by omega)
          · rw [w2 _ (by omega), hfa, upd_ne (by omega)]
            exact hI k c (by omega) hc
        · rw [w2 _ (by omega), hfa, upd_ne (by omega)]
          exact h9 k hk
      rcases h with ⟨q2, sd2, tk2, mt2, ah2, g, hsh, r35, hr35, sd3, sn3, hsn, z41, hz41, h⟩ | ⟨q2, mt2, ah2, g, hgo, z50, hz50, h⟩
      · rw [lt_I] at q2
        obtain ⟨x1, x2, x3⟩ := show_c (F := F) (S := S) (mi := mi) hm2 hN8 e0 e1 (fun w => (h4 _ w).2) f9 (by rw [le_I]; omega) hsh
        obtain ⟨y1, y2⟩ := snap_0 hsn
        obtain ⟨k1, k2⟩ := fin g x3
        have ez : z41 = nI (m + 1) := by rw [← hz41]; exact nI_s (by omega)
        rw [ez, y1, y2, x1] at h
        exact ih g (m + 1) u4 u5 tk2 mt2 ah2 (by omega) k1 k2 (by rw [NTK_s, eNS]; exact x2) h
      · rw [lt_I] at q2
        obtain ⟨x2, x3⟩ := goBy_c (F := F) (S := S) (mi := mi) (sl := sl) (mt := u7) (ah := u8) hm2 hN8 (by rw [le_I]; omega) hgo
        obtain ⟨k1, k2⟩ := fin g x3
        have ez : z50 = nI (m + 1) := by rw [← hz50]; exact nI_s (by omega)
        rw [ez] at h
        exact ih g (m + 1) u4 u5 u6 mt2 ah2 (by omega) k1 k2 (by rw [NTK_s, eNS]; exact x2) h
