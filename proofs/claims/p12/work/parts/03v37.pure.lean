set_option maxRecDepth 100000
set_option maxHeartbeats 4000000
/-- frames at place k -/
def frN (F S : Nat → Int32) (k : Nat) : Int32 := S (F (126 + k)).toInt.toNat
def nlost (a : Int32) : Int32 := if a < 0 then 0 else a
def nblack (a : Int32) : Int32 := if -a < 0 then 0 else -a
def nstart (F S : Nat → Int32) (mi : Nat) (sl : Int32) (k : Nat) (a : Int32) : Int32 := if nlost a < (if frN F S k - 1 < bel F S mi (F (126 + k)) + sl then frN F S k - 1 else bel F S mi (F (126 + k)) + sl) then (if frN F S k - 1 < bel F S mi (F (126 + k)) + sl then frN F S k - 1 else bel F S mi (F (126 + k)) + sl) else nlost a
def nchange (F S : Nat → Int32) (mi : Nat) (sl : Int32) (N k : Nat) (a : Int32) : Int32 := if k + 1 < N then (if frN F S k < nstart F S mi sl k a + F 0 then frN F S k else nstart F S mi sl k a + F 0) else frN F S k
/-- a night: the tick, the motor's tick, how far ahead, from place to place -/
def nst (F S : Nat → Int32) (mi : Nat) (sl : Int32) (N k : Nat) (a : Int32 × Int32 × Int32) : Int32 × Int32 × Int32 :=
  if frN F S k ≤ a.2.2 then (a.1, a.1, 0) else if k + 1 < N then (a.1 + nblack a.2.2 + nchange F S mi sl N k a.2.2 - nlost a.2.2, a.1 + nblack a.2.2 + nstart F S mi sl k a.2.2 - nlost a.2.2, nchange F S mi sl N k a.2.2 - nstart F S mi sl k a.2.2 - F 1 - S (34 + (k + 1))) else (a.1 + nblack a.2.2 + nchange F S mi sl N k a.2.2 - nlost a.2.2, a.2.1, a.2.2)
def NTK (F S : Nat → Int32) (mi : Nat) (sl : Int32) (N k : Nat) : Int32 × Int32 × Int32 := fo (nst F S mi sl N) 0 k (0, 0, 0)
theorem NTK_s {F S : Nat → Int32} {mi N k : Nat} {sl : Int32} : NTK F S mi sl N (k + 1) = nst F S mi sl N k (NTK F S mi sl N k) := by
  unfold NTK
  rw [fo_snoc, Nat.zero_add]
/-- what a night tells of place k, by columns -/
def nrw (F S : Nat → Int32) (mi : Nat) (sl : Int32) (N k : Nat) (a : Int32 × Int32 × Int32) : Nat → Int32
  | 0 => if frN F S k ≤ a.2.2 then frN F S k else nlost a.2.2
  | 1 => if frN F S k ≤ a.2.2 then 0 else nblack a.2.2
  | 2 => if frN F S k ≤ a.2.2 then 0 else frN F S k - nchange F S mi sl N k a.2.2
  | 3 => if frN F S k ≤ a.2.2 then 1 else 0
  | 4 => if frN F S k ≤ a.2.2 then -2 else if k + 1 < N then nstart F S mi sl k a.2.2 else -2
  | 5 => if frN F S k ≤ a.2.2 then 0 else nchange F S mi sl N k a.2.2
  | 6 => if frN F S k ≤ a.2.2 then a.1 else a.1 + nblack a.2.2
  | 7 => (nst F S mi sl N k a).1
  | 8 => a.2.1
  | _ => 0
theorem nrw_0 {F S : Nat → Int32} {mi N k : Nat} {sl : Int32} {a : Int32 × Int32 × Int32} : nrw F S mi sl N k a 0 = (if frN F S k ≤ a.2.2 then frN F S k else nlost a.2.2) := rfl
theorem nrw_1 {F S : Nat → Int32} {mi N k : Nat} {sl : Int32} {a : Int32 × Int32 × Int32} : nrw F S mi sl N k a 1 = (if frN F S k ≤ a.2.2 then 0 else nblack a.2.2) := rfl
theorem nrw_2 {F S : Nat → Int32} {mi N k : Nat} {sl : Int32} {a : Int32 × Int32 × Int32} : nrw F S mi sl N k a 2 = (if frN F S k ≤ a.2.2 then 0 else frN F S k - nchange F S mi sl N k a.2.2) := rfl
theorem nrw_3 {F S : Nat → Int32} {mi N k : Nat} {sl : Int32} {a : Int32 × Int32 × Int32} : nrw F S mi sl N k a 3 = (if frN F S k ≤ a.2.2 then 1 else 0) := rfl
theorem nrw_4 {F S : Nat → Int32} {mi N k : Nat} {sl : Int32} {a : Int32 × Int32 × Int32} : nrw F S mi sl N k a 4 = (if frN F S k ≤ a.2.2 then -2 else if k + 1 < N then nstart F S mi sl k a.2.2 else -2) := rfl
theorem nrw_5 {F S : Nat → Int32} {mi N k : Nat} {sl : Int32} {a : Int32 × Int32 × Int32} : nrw F S mi sl N k a 5 = (if frN F S k ≤ a.2.2 then 0 else nchange F S mi sl N k a.2.2) := rfl
theorem nrw_6 {F S : Nat → Int32} {mi N k : Nat} {sl : Int32} {a : Int32 × Int32 × Int32} : nrw F S mi sl N k a 6 = (if frN F S k ≤ a.2.2 then a.1 else a.1 + nblack a.2.2) := rfl
theorem nrw_7 {F S : Nat → Int32} {mi N k : Nat} {sl : Int32} {a : Int32 × Int32 × Int32} : nrw F S mi sl N k a 7 = ((nst F S mi sl N k a).1) := rfl
abbrev NR (F S : Nat → Int32) (mi : Nat) (sl : Int32) (N k c : Nat) : Int32 := nrw F S mi sl N k (NTK F S mi sl N k) c
theorem puN {f : Nat → Int32} {m j : Nat} {c v : Int32} (hc : c.toInt = j) (hm : m < 8) (hj : j < 10) : tbPut 8 10 f (nI m) c v = upd f (10 * m + j) v := by
  have e : (nI m).toInt = m := nI_toInt (by omega)
  have o8 : (8 : Int32).toInt = 8 := by decide
  have o10 : (10 : Int32).toInt = 10 := by decide
  rw [tbPut_in (by decide) (by decide) (by omega) (by omega), e, hc, o10]
  congr 1
  rw [Int.toNat_natCast, Int.toNat_natCast, show (10 : Int).toNat = 10 from rfl, Nat.mul_comm]
theorem last_n {m N : Nat} (hN : 1 ≤ N) (hN8 : N ≤ 8) (hm : m ≤ 1000) : (nI N - 1 ≤ nI m) ↔ ¬ m + 1 < N := by
  have e : (nI N - 1).toInt = N - 1 := by rw [subI (by rw [nI_toInt (by omega), oneI]; omega) (by rw [nI_toInt (by omega), oneI]; omega), nI_toInt (by omega), oneI]
  rw [le_I, e, nI_toInt (by omega)]; omega
theorem show_c {F S yhnf zpf f g : Nat → Int32} {mi m N : Nat} {ms sl sd tk mt ah sd2 tk2 mt2 ah2 : Int32} (hm : m < N) (hN8 : N ≤ 8) (e0 : yhnf 0 = F 0) (e1 : yhnf 1 = F 1) (ep : m + 1 < N → zpf (2 * (m + 1) + 1) = S (34 + (m + 1))) (eb : f (10 * m + 9) = bel F S mi (F (126 + m))) (ng : ¬ frN F S m ≤ ah) (h : R_n_showReelX (nI m) (frN F S m) ms sl 0 sd tk mt ah (nI N) f yhnf zpf sd2 tk2 mt2 ah2 g) : sd2 = sd ∧ (tk2, mt2, ah2) = nst F S mi sl N m (tk, mt, ah) ∧ g = (upd (upd (upd (upd (upd (upd (upd (upd f (10 * m + 0) (nrw F S mi sl N m (tk, mt, ah) 0)) (10 * m + 1) (nrw F S mi sl N m (tk, mt, ah) 1)) (10 * m + 2) (nrw F S mi sl N m (tk, mt, ah) 2)) (10 * m + 3) (nrw F S mi sl N m (tk, mt, ah) 3)) (10 * m + 4) (nrw F S mi sl N m (tk, mt, ah) 4)) (10 * m + 5) (nrw F S mi sl N m (tk, mt, ah) 5)) (10 * m + 6) (nrw F S mi sl N m (tk, mt, ah) 6)) (10 * m + 7) (nrw F S mi sl N m (tk, mt, ah) 7)) := by
  unfold R_n_showReelX at h
  obtain ⟨z1, hz1, z2, hz2, z3, hz3, z4, hz4, z6, hz6, h⟩ := h
  have k1 : z1 = nlost ah := hz1
  have k3 : z3 = nblack ah := by rw [hz3, hz2]; rfl
  rw [hz6, last_n (by omega) hN8 (by omega)] at h
  simp only [nrw_0, nrw_1, nrw_2, nrw_3, nrw_4, nrw_5, nrw_6, nrw_7, nst, if_neg ng]
  rcases h with ⟨q, z10, hz10, z12, hz12, f1, hf1, f2, hf2, z20, hz20, f3, hf3, f4, hf4, f5, hf5, f6, hf6, f7, hf7, f8, hf8, r1, r2, r3, r4, r5⟩ | ⟨q, x43, hx43, s45, r46, hsl, z48, hz48, z50, hz50, z52, hz52, z53, hz53, r54, hr54, z56, hz56, z58, hz58, z59, hz59, z61, hz61, z63, hz63, r65, hr65, z67, hz67, z69, hz69, r72, hr72, z74, hz74, z76, hz76, z78, hz78, f1, hf1, f2, hf2, z86, hz86, f3, hf3, f4, hf4, f5, hf5, f6, hf6, f7, hf7, f8, hf8, r1, r2, r3, r4, r5⟩
  · have kc : nchange F S mi sl N m ah = frN F S m := by unfold nchange; rw [if_neg q]
    rw [if_neg q, if_neg q, kc]
    rw [puN (c := 0) (j := 0) (by decide) (show m < 8 by omega) (by omega)] at hf1
    rw [puN (c := 1) (j := 1) (by decide) (show m < 8 by omega) (by omega)] at hf2
    rw [puN (c := 2) (j := 2) (by decide) (show m < 8 by omega) (by omega)] at hf3
    rw [puN (c := 3) (j := 3) (by decide) (show m < 8 by omega) (by omega)] at hf4
    rw [puN (c := 4) (j := 4) (by decide) (show m < 8 by omega) (by omega)] at hf5
    rw [puN (c := 5) (j := 5) (by decide) (show m < 8 by omega) (by omega)] at hf6
    rw [puN (c := 6) (j := 6) (by decide) (show m < 8 by omega) (by omega)] at hf7
    rw [puN (c := 7) (j := 7) (by decide) (show m < 8 by omega) (by omega)] at hf8
    refine ⟨r1, by rw [r2, r3, r4, hz12, hz10, hz4, k1, k3], ?_⟩
    rw [r5, hf8, hf7, hf6, hf5, hf4, hf3, hf2, hf1, hz20, hz12, hz10, hz4, k1, k3]
  · have q : m + 1 < N := Decidable.not_not.mp q
    unfold R_n_slipNowX at hsl
    rcases hsl with ⟨-, w1, w2⟩ | ⟨w, -⟩
    case inr => exact absurd rfl w
    rw [tbN (R := 8) (V := 10) (c := 9) (a := 8) (b := 10) (j := 9) (by decide) (by decide) (by omega) (by omega) (by decide) (by omega) (by omega), eb] at hx43
    have k54 := (h_num (j := 0) (by decide) (by omega)).mp hr54
    have k65 := (h_num (j := 1) (by decide) (by omega)).mp hr65
    rw [e0] at k54
    rw [e1] at k65
    have k69 : z69 = nI (m + 1) := by rw [hz69]; exact nI_s1 (by omega)
    rw [k69, tbN (R := 8) (V := 2) (c := 1) (a := 8) (b := 2) (j := 1) (by decide) (by decide) (by omega) (by omega) (by decide) (by omega) (by omega), ep q] at hr72
    have k53 : z53 = nstart F S mi sl m ah := by
      rw [hz53, hz52, hz50, hz48, hx43, w2, k1]
      rfl
    have k58 : z58 = nchange F S mi sl N m ah := by
      unfold nchange
      rw [if_pos q, hz58, hz56, k53, k54]
    rw [if_pos q, if_pos q]
    rw [puN (c := 0) (j := 0) (by decide) (show m < 8 by omega) (by omega)] at hf1
    rw [puN (c := 1) (j := 1) (by decide) (show m < 8 by omega) (by omega)] at hf2
    rw [puN (c := 2) (j := 2) (by decide) (show m < 8 by omega) (by omega)] at hf3
    rw [puN (c := 3) (j := 3) (by decide) (show m < 8 by omega) (by omega)] at hf4
    rw [puN (c := 4) (j := 4) (by decide) (show m < 8 by omega) (by omega)] at hf5
    rw [puN (c := 5) (j := 5) (by decide) (show m < 8 by omega) (by omega)] at hf6
    rw [puN (c := 6) (j := 6) (by decide) (show m < 8 by omega) (by omega)] at hf7
    rw [puN (c := 7) (j := 7) (by decide) (show m < 8 by omega) (by omega)] at hf8
    refine ⟨r1.trans w1, by rw [r2, r3, r4, hz78, hz76, hz74, hz67, hz63, hz61, hz59, hr72, hz4, k58, k53, k65, k1, k3], ?_⟩
    rw [r5, hf8, hf7, hf6, hf5, hf4, hf3, hf2, hf1, hz86, hz78, hz76, hz4, k58, k53, k1, k3]
theorem goBy_c {F S f g : Nat → Int32} {mi m N : Nat} {sl tk mt ah mt2 ah2 : Int32} (hm : m < N) (hN8 : N ≤ 8) (ng : frN F S m ≤ ah) (h : R_n_goByX (nI m) (frN F S m) tk f mt2 ah2 g) : (tk, mt2, ah2) = nst F S mi sl N m (tk, mt, ah) ∧ g = (upd (upd (upd (upd (upd (upd (upd (upd f (10 * m + 0) (nrw F S mi sl N m (tk, mt, ah) 0)) (10 * m + 1) (nrw F S mi sl N m (tk, mt, ah) 1)) (10 * m + 2) (nrw F S mi sl N m (tk, mt, ah) 2)) (10 * m + 3) (nrw F S mi sl N m (tk, mt, ah) 3)) (10 * m + 4) (nrw F S mi sl N m (tk, mt, ah) 4)) (10 * m + 5) (nrw F S mi sl N m (tk, mt, ah) 5)) (10 * m + 6) (nrw F S mi sl N m (tk, mt, ah) 6)) (10 * m + 7) (nrw F S mi sl N m (tk, mt, ah) 7)) := by
  unfold R_n_goByX at h
  obtain ⟨f1, hf1, f2, hf2, f3, hf3, f4, hf4, f5, hf5, f6, hf6, f7, hf7, f8, hf8, r3, r4, r5⟩ := h
  rw [puN (c := 0) (j := 0) (by decide) (show m < 8 by omega) (by omega)] at hf1
  rw [puN (c := 1) (j := 1) (by decide) (show m < 8 by omega) (by omega)] at hf2
  rw [puN (c := 2) (j := 2) (by decide) (show m < 8 by omega) (by omega)] at hf3
  rw [puN (c := 3) (j := 3) (by decide) (show m < 8 by omega) (by omega)] at hf4
  rw [puN (c := 4) (j := 4) (by decide) (show m < 8 by omega) (by omega)] at hf5
  rw [puN (c := 5) (j := 5) (by decide) (show m < 8 by omega) (by omega)] at hf6
  rw [puN (c := 6) (j := 6) (by decide) (show m < 8 by omega) (by omega)] at hf7
  rw [puN (c := 7) (j := 7) (by decide) (show m < 8 by omega) (by omega)] at hf8
  simp only [nrw_0, nrw_1, nrw_2, nrw_3, nrw_4, nrw_5, nrw_6, nrw_7, nst, if_pos ng]
  exact ⟨by rw [r3, r4], by rw [r5, hf8, hf7, hf6, hf5, hf4, hf3, hf2, hf1]⟩
theorem w8_at {f : Nat → Int32} {v : Nat → Int32} {m : Nat} : (∀ c : Nat, c < 8 → (upd (upd (upd (upd (upd (upd (upd (upd f (10 * m + 0) (v 0)) (10 * m + 1) (v 1)) (10 * m + 2) (v 2)) (10 * m + 3) (v 3)) (10 * m + 4) (v 4)) (10 * m + 5) (v 5)) (10 * m + 6) (v 6)) (10 * m + 7) (v 7)) (10 * m + c) = v c) ∧ (∀ i : Nat, (i < 10 * m ∨ 10 * m + 8 ≤ i) → (upd (upd (upd (upd (upd (upd (upd (upd f (10 * m + 0) (v 0)) (10 * m + 1) (v 1)) (10 * m + 2) (v 2)) (10 * m + 3) (v 3)) (10 * m + 4) (v 4)) (10 * m + 5) (v 5)) (10 * m + 6) (v 6)) (10 * m + 7) (v 7)) i = f i) := by
  refine ⟨fun c hc => ?_, fun i hi => ?_⟩
  · match c, hc with
    | 0, _ => rw [upd_ne (by omega), upd_ne (by omega), upd_ne (by omega), upd_ne (by omega), upd_ne (by omega), upd_ne (by omega), upd_ne (by omega), upd_at]
    | 1, _ => rw [upd_ne (by omega), upd_ne (by omega), upd_ne (by omega), upd_ne (by omega), upd_ne (by omega), upd_ne (by omega), upd_at]
    | 2, _ => rw [upd_ne (by omega), upd_ne (by omega), upd_ne (by omega), upd_ne (by omega), upd_ne (by omega), upd_at]
    | 3, _ => rw [upd_ne (by omega), upd_ne (by omega), upd_ne (by omega), upd_ne (by omega), upd_at]
    | 4, _ => rw [upd_ne (by omega), upd_ne (by omega), upd_ne (by omega), upd_at]
    | 5, _ => rw [upd_ne (by omega), upd_ne (by omega), upd_at]
    | 6, _ => rw [upd_ne (by omega), upd_at]
    | 7, _ => rw [upd_at]
  · rw [upd_ne (by omega), upd_ne (by omega), upd_ne (by omega), upd_ne (by omega), upd_ne (by omega), upd_ne (by omega), upd_ne (by omega), upd_ne (by omega)]
theorem snap_0 {r sn sd md wn sd2 sn2 : Int32} {yhnf zwf : Nat → Int32} (h : R_n_snapWeakPlacesX r sn 0 sd yhnf md wn zwf sd2 sn2) : sd2 = sd ∧ sn2 = sn := by
  unfold R_n_snapWeakPlacesX at h
  obtain ⟨t, h⟩ := h
  cases t with
  | zero => exact h.elim
  | succ t =>
    rw [R_n_snapWeakPlacesX_L0] at h
    rcases h with ⟨-, h⟩ | ⟨w, -⟩
    · exact h
    · exact absurd rfl w
theorem run_c_L {F S yhnf zrf zpf zwf : Nat → Int32} {mi N : Nat} {ms sl zmd zwn : Int32} {κ : Int32 → Int32 → Int32 → Int32 → Int32 → (Nat → Int32) → Prop} (hN8 : N ≤ 8) (e0 : yhnf 0 = F 0) (e1 : yhnf 1 = F 1) (b6 : (F 6).toInt ≤ 8) (hr : ∀ k : Nat, k < N → 0 ≤ (F (126 + k)).toInt ∧ (F (126 + k)).toInt < (F 6).toInt) (h1 : ∀ k : Nat, (k : Int) < (F 6).toInt → zrf (3 * k) = S k ∧ zrf (3 * k + 1) = S (8 + k) ∧ zrf (3 * k + 2) = F (16 + 3 * k + 2)) (h4 : ∀ k : Nat, k < N → zpf (2 * k) = F (126 + k) ∧ zpf (2 * k + 1) = S (34 + k)) : ∀ (t : Nat) (f : Nat → Int32) (m : Nat) (u4 u5 u6 u7 u8 : Int32), m ≤ N → (∀ k c : Nat, k < m → c < 9 → f (10 * k + c) = NR F S mi sl N k c) → (∀ k : Nat, k < N → f (10 * k + 9) = bel F S mi (F (126 + k))) → (u6, u7, u8) = NTK F S mi sl N m → R_n_runX_L0 ms sl 0 (nI N) yhnf zmd zrf zpf zwn zwf κ t f (nI m) u4 u5 u6 u7 u8 → ∃ g : Nat → Int32, κ u4 u5 (NTK F S mi sl N N).1 (NTK F S mi sl N N).2.1 (NTK F S mi sl N N).2.2 g ∧ (∀ k c : Nat, k < N → c < 9 → g (10 * k + c) = NR F S mi sl N k c) ∧ (∀ k : Nat, k < N → g (10 * k + 9) = bel F S mi (F (126 + k))) := by
  intro t
  induction t with
  | zero => intro f m u4 u5 u6 u7 u8 _ _ _ _ h; exact h.elim
  | succ t ih =>
    intro f m u4 u5 u6 u7 u8 hm hI h9 hu h
    rw [R_n_runX_L0] at h
    rcases h with ⟨q, h⟩ | ⟨q, fa, hfa, r20, hr20, r22, hr22, h⟩
    · rw [nI_gE (by omega) (by omega)] at q
      obtain rfl : m = N := by omega
      refine ⟨f, ?_, hI, h9⟩
      rw [← hu]
      exact h
    · rw [nI_gE (by omega) (by omega)] at q
      have hm2 : m < N := by omega
      rw [puN (c := 8) (j := 8) (by decide) (by omega) (by omega)] at hfa
      have reel : ∀ r : Int32, R_s_reelAtX (nI m) zpf r → r = F (126 + m) := by
        intro r hr3
        unfold R_s_reelAtX at hr3
        simp only [exists_eq_left] at hr3
        rw [hr3, tbN (R := 8) (V := 2) (c := 0) (a := 8) (b := 2) (j := 0) (by decide) (by decide) (by omega) (by omega) (by decide) (by omega) (by omega), Nat.add_zero, (h4 m hm2).1]
      have er := reel r20 hr20
      obtain ⟨g1, g2⟩ := hr m hm2
      obtain ⟨ρ, eρ, hρ⟩ := nI_oF g1
      have efr : r22 = frN F S m := by
        rw [hr22, er, eρ, tbN (R := 8) (V := 3) (c := 0) (a := 8) (b := 3) (j := 0) (by decide) (by decide) (by omega) (by omega) (by decide) (by omega) (by omega), Nat.add_zero, (h1 ρ (by omega)).1]
        unfold frN
        rw [hρ, Int.toNat_natCast]
      subst efr
      have f9 : fa (10 * m + 9) = bel F S mi (F (126 + m)) := by rw [hfa, upd_ne (by omega)]; exact h9 m hm2
      have eNS : NTK F S mi sl N m = (u6, u7, u8) := hu.symm
      have fin : ∀ g : Nat → Int32, g = (upd (upd (upd (upd (upd (upd (upd (upd fa (10 * m + 0) (nrw F S mi sl N m (u6, u7, u8) 0)) (10 * m + 1) (nrw F S mi sl N m (u6, u7, u8) 1)) (10 * m + 2) (nrw F S mi sl N m (u6, u7, u8) 2)) (10 * m + 3) (nrw F S mi sl N m (u6, u7, u8) 3)) (10 * m + 4) (nrw F S mi sl N m (u6, u7, u8) 4)) (10 * m + 5) (nrw F S mi sl N m (u6, u7, u8) 5)) (10 * m + 6) (nrw F S mi sl N m (u6, u7, u8) 6)) (10 * m + 7) (nrw F S mi sl N m (u6, u7, u8) 7)) → (∀ k c : Nat, k < m + 1 → c < 9 → g (10 * k + c) = NR F S mi sl N k c) ∧ (∀ k : Nat, k < N → g (10 * k + 9) = bel F S mi (F (126 + k))) := by
        intro g eg
        obtain ⟨w1, w2⟩ := w8_at (f := fa) (v := nrw F S mi sl N m (u6, u7, u8)) (m := m)
        rw [← eg] at w1 w2
        refine ⟨fun k c hk hc => ?_, fun k hk => ?_⟩
        · by_cases e : k = m
          · subst e
            show g (10 * k + c) = nrw F S mi sl N k (NTK F S mi sl N k) c
            rw [eNS]
            by_cases e8 : c = 8
            · subst e8
              rw [w2 _ (by omega), hfa, upd_at]
              rfl
            · exact w1 c (by omega)
          · rw [w2 _ (by omega), hfa, upd_ne (by omega)]
            exact hI k c (by omega) hc
        · rw [w2 _ (by omega), hfa, upd_ne (by omega)]
          exact h9 k hk
      rcases h with ⟨q2, sd2, tk2, mt2, ah2, g, hsh, r35, hr35, sd3, sn3, hsn, z41, hz41, h⟩ | ⟨q2, mt2, ah2, g, hgo, z50, hz50, h⟩
      · rw [lt_I] at q2
        obtain ⟨x1, x2, x3⟩ := show_c (F := F) (S := S) (mi := mi) hm2 hN8 e0 e1 (fun w => (h4 _ w).2) f9 (by rw [le_I]; omega) hsh
        obtain ⟨y1, y2⟩ := snap_0 hsn
        obtain ⟨k1, k2⟩ := fin g x3
        have ez : z41 = nI (m + 1) := by rw [← hz41]; exact nI_s (by omega)
        rw [ez, y1, y2, x1] at h
        exact ih g (m + 1) u4 u5 tk2 mt2 ah2 (by omega) k1 k2 (by rw [NTK_s, eNS]; exact x2) h
      · rw [lt_I] at q2
        obtain ⟨x2, x3⟩ := goBy_c (F := F) (S := S) (mi := mi) (sl := sl) (mt := u7) (ah := u8) hm2 hN8 (by rw [le_I]; omega) hgo
        obtain ⟨k1, k2⟩ := fin g x3
        have ez : z50 = nI (m + 1) := by rw [← hz50]; exact nI_s (by omega)
        rw [ez] at h
        exact ih g (m + 1) u4 u5 u6 mt2 ah2 (by omega) k1 k2 (by rw [NTK_s, eNS]; exact x2) h

set_option maxRecDepth 100000
set_option maxHeartbeats 4000000
def mblack (a : Int32) : Int32 := if 0 < a then 0 else -a
theorem negI {a : Int32} (h : -2147483648 < a.toInt) : (-a).toInt = -a.toInt := by
  have h2 := (rng a).2
  rw [Int32.toInt_neg, bm32 (by omega) (by omega)]
theorem nb_mb {a : Int32} (h : -100000 ≤ a.toInt) : nblack a = mblack a := by
  have e := negI (a := a) (by omega)
  unfold nblack mblack
  by_cases q : 0 < a
  · rw [if_pos q, if_pos (by rw [lt_I, e, zI]; rw [lt_I, zI] at q; omega)]
  · rw [if_neg q, if_neg (by rw [lt_I, e, zI]; rw [lt_I, zI] at q; omega)]
theorem nb_0 {a : Int32} (h : 0 < a) : nblack a = 0 := by
  have h2 := (rng a).2
  rw [lt_I, zI] at h
  have e := negI (a := a) (by omega)
  unfold nblack
  rw [if_pos (by rw [lt_I, e, zI]; omega)]
/-- what the numbers of a night need of the State -/
def NB (F S : Nat → Int32) (N : Nat) : Prop := IV (F 0) 0 50 ∧ IV (F 1) 0 50 ∧ (∀ k : Nat, k < N → IV (frN F S k) 2 2000) ∧ (∀ k : Nat, k < N → IV (S (34 + k)) 0 199)
theorem NTK_b {F S : Nat → Int32} {mi N : Nat} {sl : Int32} (hB : NB F S N) : ∀ k : Nat, k ≤ N → IV (NTK F S mi sl N k).2.2 (-3000) 3000 := by
  obtain ⟨⟨a0, a1⟩, ⟨b0, b1⟩, hf, ht⟩ := hB
  intro k
  induction k with
  | zero => intro _; show IV (0 : Int32) (-3000) 3000; decide
  | succ k ih =>
    intro hk
    have i1 := ih (by omega)
    obtain ⟨f0, f1⟩ := hf k (by omega)
    rw [NTK_s]
    unfold nst
    by_cases q : frN F S k ≤ (NTK F S mi sl N k).2.2
    · rw [if_pos q]; show IV (0 : Int32) (-3000) 3000; decide
    · rw [if_neg q]
      rw [le_I] at q
      by_cases q2 : k + 1 < N
      · rw [if_pos q2]
        show IV (nchange F S mi sl N k (NTK F S mi sl N k).2.2 - nstart F S mi sl k (NTK F S mi sl N k).2.2 - F 1 - S (34 + (k + 1))) (-3000) 3000
        generalize (NTK F S mi sl N k).2.2 = ah at i1 q
        have hl : 0 ≤ (nlost ah).toInt ∧ (nlost ah).toInt < (frN F S k).toInt := by
          unfold nlost
          by_cases w : ah < 0
          · rw [if_pos w, zI]; omega
          · rw [if_neg w]; rw [lt_I, zI] at w; omega
        have e1 : (frN F S k - 1).toInt = (frN F S k).toInt - 1 := by rw [subI (by rw [oneI]; omega) (by rw [oneI]; omega), oneI]
        have hs : 0 ≤ (nstart F S mi sl k ah).toInt ∧ (nstart F S mi sl k ah).toInt < (frN F S k).toInt := by
          unfold nstart
          generalize bel F S mi (F (126 + k)) + sl = x
          by_cases w : frN F S k - 1 < x
          · rw [if_pos w]
            by_cases w2 : nlost ah < frN F S k - 1
            · rw [if_pos w2, e1]; omega
            · rw [if_neg w2]; exact hl
          · rw [if_neg w]
            rw [lt_I, e1] at w
            by_cases w2 : nlost ah < x
            · rw [if_pos w2]; rw [lt_I] at w2; omega
            · rw [if_neg w2]; exact hl
        have ea : (nstart F S mi sl k ah + F 0).toInt = (nstart F S mi sl k ah).toInt + (F 0).toInt := addI (by omega) (by omega)
        have hc : 0 ≤ (nchange F S mi sl N k ah).toInt ∧ (nchange F S mi sl N k ah).toInt ≤ 2000 := by
          unfold nchange
          rw [if_pos q2]
          by_cases w : frN F S k < nstart F S mi sl k ah + F 0
          · rw [if_pos w]; omega
          · rw [if_neg w]; rw [lt_I, ea] at w; rw [ea]; omega
        obtain ⟨t0, t1⟩ := ht (k + 1) (by omega)
        have s1 : (nchange F S mi sl N k ah - nstart F S mi sl k ah).toInt = (nchange F S mi sl N k ah).toInt - (nstart F S mi sl k ah).toInt := subI (by omega) (by omega)
        have s2 : (nchange F S mi sl N k ah - nstart F S mi sl k ah - F 1).toInt = (nchange F S mi sl N k ah).toInt - (nstart F S mi sl k ah).toInt - (F 1).toInt := by rw [subI (by omega) (by omega), s1]
        have s3 : (nchange F S mi sl N k ah - nstart F S mi sl k ah - F 1 - S (34 + (k + 1))).toInt = (nchange F S mi sl N k ah).toInt - (nstart F S mi sl k ah).toInt - (F 1).toInt - (S (34 + (k + 1))).toInt := by rw [subI (by omega) (by omega), s2]
        rw [IV, s3]
        omega
      · rw [if_neg q2]
        exact i1
theorem follows_m {f0 b0 m0 l0 k0 b2 k2 f2 l2 m2 : Nat → Int32} {m : Nat} {p1 p2 p3 p4 : Int32} (hm : m ≤ 100) (hp : p4 = 0 ∨ p3 = 0) (h : R_m_followsX (nI m) p1 p2 p3 p4 f0 b0 m0 l0 k0 b2 k2 f2 l2 m2) : b2 = upd b0 (m + 1) (p2 + mblack p3) ∧ k2 = upd k0 (m + 1) (mblack p3) ∧ f2 = upd f0 (m + 1) (nlost p3) ∧ l2 = upd l0 (m + 1) (nlost p3) ∧ m2 = upd m0 (m + 1) p1 := by
  unfold R_m_followsX at h
  obtain ⟨z1, hz1, h⟩ := h
  have e1 : z1.toNatClampNeg = m + 1 := by rw [hz1, nI_s1 (by omega)]; exact nI_c (by omega)
  rw [e1] at h
  have n0 : nlost 0 = 0 := by decide
  have k0' : mblack 0 = 0 := by decide
  rcases h with ⟨q, ⟨-, z10, hz10, r1, r2, r3, r4, r5⟩ | ⟨w, -⟩⟩ | ⟨q, ⟨q2, ⟨q3, z40, hz40, z42, hz42, r1, r2, r3, r4, r5⟩ | ⟨q3, z48, hz48, r1, r2, r3, r4, r5⟩⟩ | ⟨q2, z59, hz59, z61, hz61, r1, r2, r3, r4, r5⟩⟩
  · have p0 := hp.resolve_left q
    subst p0
    rw [n0, k0']
    exact ⟨by rw [r1, hz10], r2, r3, r4, r5⟩
  · exact absurd w q
  · have p0 : p3 = 0 := Int32.toInt_inj.mp (by rw [le_I, zI] at q2 q3; rw [zI]; omega)
    subst p0
    rw [n0, k0']
    have e : -(0 : Int32) = 0 := by decide
    exact ⟨by rw [r1, hz42, hz40, e], by rw [r2, hz40, e], r3, r4, r5⟩
  · rw [le_I, zI] at q3
    have eb : mblack p3 = 0 := by unfold mblack; rw [if_pos (by rw [lt_I, zI]; omega)]
    have el : nlost p3 = p3 := by unfold nlost; rw [if_neg (by rw [lt_I, zI]; omega)]
    rw [eb, el]
    exact ⟨by rw [r1, hz48], r2, r3, r4, r5⟩
  · rw [le_I, zI] at q2
    have eb : mblack p3 = -p3 := by unfold mblack; rw [if_neg (by rw [lt_I, zI]; omega)]
    have el : nlost p3 = 0 := by unfold nlost; rw [if_pos (by rw [lt_I, zI]; omega)]
    rw [eb, el]
    exact ⟨by rw [r1, hz61, hz59], by rw [r2, hz59], r3, r4, r5⟩
theorem frames_m {F S : Nat → Int32} {m : Nat} {r : Int32} (hm : m ≤ 100) (hr : 0 ≤ (F (126 + m)).toInt ∧ (F (126 + m)).toInt ≤ 8) : R_m_framesAtX (nI m) F S r ↔ r = frN F S m := by
  unfold R_m_framesAtX R_m_reelAtX
  obtain ⟨ρ, eρ, hρ⟩ := nI_oF hr.1
  simp only [exists_eq_left, ix_126 (show m ≤ 1000 by omega)]
  unfold frN
  rw [hρ, Int.toNat_natCast, eρ, ix_0 (show ρ ≤ 1000 by omega), Nat.zero_add]
theorem gone_m {F S fr : Nat → Int32} {m : Nat} {r : Int32} (hm : m ≤ 100) (hr : 0 ≤ (F (126 + m)).toInt ∧ (F (126 + m)).toInt ≤ 8) : R_m_isGoneX (nI m) F S fr r ↔ r = (if fr m < frN F S m then 0 else 1) := by
  unfold R_m_isGoneX
  simp only [exists_eq_left, nI_c (show m < 100000 by omega), frames_m hm hr]
  rw [goI, iteE]
/-- what stands in the reference's rows for the places below m, and for place m itself -/
def NM (F S : Nat → Int32) (mi : Nat) (sl : Int32) (N m : Nat) (be bl ch cf fr lo mo st : Nat → Int32) : Prop :=
  (∀ k : Nat, k < m → ch k = NR F S mi sl N k 7 ∧ cf k = NR F S mi sl N k 5 ∧ st k = NR F S mi sl N k 4 ∧ lo k = NR F S mi sl N k 0) ∧
  (∀ k : Nat, k ≤ m → k < N → be k = NR F S mi sl N k 6 ∧ bl k = NR F S mi sl N k 1 ∧ fr k = nlost (NTK F S mi sl N k).2.2 ∧ mo k = NR F S mi sl N k 8) ∧
  (m < N → lo m = nlost (NTK F S mi sl N m).2.2)
theorem gone_iff {a f : Int32} (hf : 1 ≤ f.toInt) : (nlost a < f) ↔ ¬ f ≤ a := by
  unfold nlost
  rw [le_I]
  by_cases q : a < 0
  · rw [if_pos q, lt_I, zI]; rw [lt_I, zI] at q; omega
  · rw [if_neg q, lt_I]; omega
/-- the next place -/
theorem NM_next {F S : Nat → Int32} {mi N m : Nat} {sl : Int32} {be bl fr lo mo be2 bl2 fr2 lo2 mo2 ch cf st : Nat → Int32} (hB : NB F S N) (hm : m + 1 < N) (hN : N ≤ 8)
    (h1 : ∀ k : Nat, k < m + 1 → ch k = NR F S mi sl N k 7 ∧ cf k = NR F S mi sl N k 5 ∧ st k = NR F S mi sl N k 4 ∧ lo k = NR F S mi sl N k 0)
    (h2 : ∀ k : Nat, k ≤ m → k < N → be k = NR F S mi sl N k 6 ∧ bl k = NR F S mi sl N k 1 ∧ fr k = nlost (NTK F S mi sl N k).2.2 ∧ mo k = NR F S mi sl N k 8)
    (e1 : be2 = upd be (m + 1) ((NTK F S mi sl N (m + 1)).1 + mblack (NTK F S mi sl N (m + 1)).2.2)) (e2 : bl2 = upd bl (m + 1) (mblack (NTK F S mi sl N (m + 1)).2.2)) (e3 : fr2 = upd fr (m + 1) (nlost (NTK F S mi sl N (m + 1)).2.2)) (e4 : lo2 = upd lo (m + 1) (nlost (NTK F S mi sl N (m + 1)).2.2)) (e5 : mo2 = upd mo (m + 1) (NTK F S mi sl N (m + 1)).2.1) : NM F S mi sl N (m + 1) be2 bl2 ch cf fr2 lo2 mo2 st := by
  have hb := NTK_b (mi := mi) (sl := sl) hB (m + 1) (by omega)
  have eb := nb_mb (a := (NTK F S mi sl N (m + 1)).2.2) (by rw [IV] at hb; omega)
  refine ⟨fun k hk => ?_, fun k hk hk2 => ?_, fun _ => by rw [e4, upd_at]⟩
  · rw [e4, upd_ne (by omega)]
    exact h1 k hk
  · by_cases e : k = m + 1
    · subst e
      rw [e1, e2, e3, e5, upd_at, upd_at, upd_at, upd_at]
      obtain ⟨f0, f1⟩ := hB.2.2.1 (m + 1) hk2
      refine ⟨?_, ?_, rfl, rfl⟩
      · show _ = (if frN F S (m + 1) ≤ (NTK F S mi sl N (m + 1)).2.2 then (NTK F S mi sl N (m + 1)).1 else (NTK F S mi sl N (m + 1)).1 + nblack (NTK F S mi sl N (m + 1)).2.2)
        by_cases q : frN F S (m + 1) ≤ (NTK F S mi sl N (m + 1)).2.2
        · rw [if_pos q, ← eb, nb_0 (by rw [le_I] at q; rw [lt_I, zI]; omega), Int32.add_zero]
        · rw [if_neg q, eb]
      · show _ = (if frN F S (m + 1) ≤ (NTK F S mi sl N (m + 1)).2.2 then 0 else nblack (NTK F S mi sl N (m + 1)).2.2)
        by_cases q : frN F S (m + 1) ≤ (NTK F S mi sl N (m + 1)).2.2
        · rw [if_pos q, ← eb, nb_0 (by rw [le_I] at q; rw [lt_I, zI]; omega)]
        · rw [if_neg q, eb]
    · rw [e1, e2, e3, e5, upd_ne e, upd_ne e, upd_ne e, upd_ne e]
      exact h2 k (by omega) hk2
theorem NM_more {F S : Nat → Int32} {mi N m : Nat} {sl : Int32} {be bl ch cf fr lo mo st ch2 cf2 st2 lo2 : Nat → Int32} (h : NM F S mi sl N m be bl ch cf fr lo mo st) (e1 : ch2 = upd ch m (NR F S mi sl N m 7)) (e2 : cf2 = upd cf m (NR F S mi sl N m 5)) (e3 : st2 = upd st m (NR F S mi sl N m 4)) (e4 : lo2 m = NR F S mi sl N m 0) (e5 : ∀ k : Nat, k < m → lo2 k = lo k) : ∀ k : Nat, k < m + 1 → ch2 k = NR F S mi sl N k 7 ∧ cf2 k = NR F S mi sl N k 5 ∧ st2 k = NR F S mi sl N k 4 ∧ lo2 k = NR F S mi sl N k 0 := by
  intro k hk
  by_cases e : k = m
  · subst e
    rw [e1, e2, e3, upd_at, upd_at, upd_at]
    exact ⟨rfl, rfl, rfl, e4⟩
  · rw [e1, e2, e3, upd_ne e, upd_ne e, upd_ne e, e5 k (by omega)]
    exact h.1 k (by omega)

set_option maxRecDepth 100000
set_option maxHeartbeats 4000000
theorem upd_upd {f : Nat → Int32} {i : Nat} {a b : Int32} : upd (upd f i a) i b = upd f i b := by
  funext j
  by_cases e : j = i
  · subst e; rw [upd_at, upd_at]
  · rw [upd_ne e, upd_ne e, upd_ne e]
theorem gone_it {a f x y : Int32} (hf : 1 ≤ f.toInt) : (if nlost a < f then x else y) = (if ¬ f ≤ a then x else y) := by
  by_cases g : f ≤ a
  · rw [if_neg (fun v => (gone_iff hf).mp v g), if_neg (fun v => v g)]
  · rw [if_pos ((gone_iff hf).mpr g), if_pos g]
theorem last_lt {m N : Nat} (hN : 1 ≤ N) (hN8 : N ≤ 8) (hm : m ≤ 1000) : (nI N - 1 < nI m) ↔ N ≤ m := by
  have e : (nI N - 1).toInt = N - 1 := by rw [subI (by rw [nI_toInt (by omega), oneI]; omega) (by rw [nI_toInt (by omega), oneI]; omega), nI_toInt (by omega), oneI]
  rw [lt_I, e, nI_toInt (by omega)]; omega
theorem ix_34s {m : Nat} (hm : m ≤ 100) : (((34 : Int32) + nI m) + (1 : Int32)).toNatClampNeg = 34 + (m + 1) := by
  have o34 : (34 : Int32).toInt = 34 := by decide
  have e1 : ((34 : Int32) + nI m).toInt = 34 + m := by rw [addI (by rw [o34, nI_toInt (by omega)]; omega) (by rw [o34, nI_toInt (by omega)]; omega), o34, nI_toInt (by omega)]
  have e2 : (((34 : Int32) + nI m) + (1 : Int32)).toInt = (34 + (m + 1) : Nat) := by rw [addI (by rw [e1, oneI]; omega) (by rw [e1, oneI]; omega), e1, oneI]; omega
  exact tnz e2
theorem lay_L {F S sp : Nat → Int32} {mi N : Nat} {sl : Int32} {κ : (Nat → Int32) → (Nat → Int32) → (Nat → Int32) → (Nat → Int32) → (Nat → Int32) → (Nat → Int32) → (Nat → Int32) → (Nat → Int32) → Prop} (hB : NB F S N) (h1N : 1 ≤ N) (hN : N ≤ 8) (hr : ∀ k : Nat, k < N → 0 ≤ (F (126 + k)).toInt ∧ (F (126 + k)).toInt ≤ 8) (hb : ∀ k : Nat, k < N → ∀ r : Int32, R_m_believesOfX (nI mi) (nI k) F S r → r = bel F S mi (F (126 + k))) (hs : ∀ k : Nat, k < N → sp k = sl) : ∀ (t : Nat) (be bl ch cf fr lo mo st : Nat → Int32) (m : Nat), m ≤ N → NM F S mi sl N m be bl ch cf fr lo mo st → R_m_layNightX_L0 (nI mi) F S sp (nI N - 1) κ t be bl ch cf fr lo mo st (nI m) → ∃ be2 bl2 ch2 cf2 fr2 lo2 mo2 st2 : Nat → Int32, κ be2 bl2 ch2 cf2 fr2 lo2 mo2 st2 ∧ NM F S mi sl N N be2 bl2 ch2 cf2 fr2 lo2 mo2 st2 := by
  intro t
  induction t with
  | zero => intro be bl ch cf fr lo mo st m _ _ h; exact h.elim
  | succ t ih =>
    intro be bl ch cf fr lo mo st m hm hM h
    rw [R_m_layNightX_L0] at h
    rcases h with ⟨q, h⟩ | ⟨q, r31, hr31, r34, hr34, h⟩
    · rw [last_lt h1N hN (by omega)] at q
      obtain rfl : m = N := by omega
      exact ⟨_, _, _, _, _, _, _, _, h, hM⟩
    · rw [last_lt h1N hN (by omega)] at q
      have hm2 : m < N := by omega
      have hR := hr m hm2
      rw [frames_m (by omega) hR] at hr31
      rw [gone_m (by omega) hR] at hr34
      have cm : (nI m).toNatClampNeg = m := nI_c (by omega)
      have em : nI m + Int32.ofInt 1 = nI (m + 1) := nI_s (by omega)
      obtain ⟨M1, M2, M3⟩ := hM
      obtain ⟨b1, b2, b3, b4⟩ := M2 m (by omega) hm2
      have b5 := M3 hm2
      obtain ⟨f0, f1⟩ := hB.2.2.1 m hm2
      rw [b3, gone_it (by omega)] at hr34
      rw [cm, last_n h1N hN (by omega)] at h
      subst hr31
      by_cases g : frN F S m ≤ (NTK F S mi sl N m).2.2
      · -- gone
        have n7 : NR F S mi sl N m 7 = (NTK F S mi sl N m).1 := by show (nst F S mi sl N m _).1 = _; unfold nst; rw [if_pos g]
        have n6 : NR F S mi sl N m 6 = (NTK F S mi sl N m).1 := by show (if _ then _ else _) = _; rw [if_pos g]
        have n5 : NR F S mi sl N m 5 = 0 := by show (if _ then _ else _) = _; rw [if_pos g]
        have n4 : NR F S mi sl N m 4 = -2 := by show (if _ then _ else _) = _; rw [if_pos g]
        have n0 : NR F S mi sl N m 0 = frN F S m := by show (if _ then _ else _) = _; rw [if_pos g]
        rcases h with ⟨w, -⟩ | ⟨-, z155, hz155, h⟩
        · rw [hr34] at w; exact absurd w (by rw [if_neg (fun v => v g)]; decide)
        rw [b1, n6] at hz155
        have more := NM_more (lo2 := upd lo m (frN F S m)) ⟨M1, M2, M3⟩ (ch2 := upd ch m z155) (cf2 := upd cf m 0) (st2 := upd st m (-2)) (by rw [n7, hz155]) (by rw [n5]) (by rw [n4]) (by rw [n0, upd_at]) (fun k hk => upd_ne (by omega))
        rcases h with ⟨w, z159, hz159, h⟩ | ⟨w, c1, c2, c3, c4, c5, hf, z173, hz173, h⟩
        · rw [em] at hz159
          subst hz159
          have e : m + 1 = N := by omega
          refine ih _ _ _ _ _ _ _ _ (m + 1) (by omega) ⟨more, fun k hk hk2 => M2 k (by omega) hk2, fun v => absurd v (by omega)⟩ h
        · have w : m + 1 < N := Decidable.not_not.mp w
          rw [em] at hz173
          subst hz173
          obtain ⟨y1, y2, y3, y4, y5⟩ := follows_m (by omega) (Or.inr rfl) hf
          have eN : NTK F S mi sl N (m + 1) = ((NTK F S mi sl N m).1, (NTK F S mi sl N m).1, 0) := by rw [NTK_s]; unfold nst; rw [if_pos g]
          refine ih _ _ _ _ _ _ _ _ (m + 1) (by omega) (NM_next hB w hN more M2 ?_ ?_ ?_ ?_ ?_) h
          · rw [y1, eN, hz155]
          · rw [y2, eN]
          · rw [y3, eN]
          · rw [y4, eN]
          · rw [y5, eN, hz155]
      · have n6 : NR F S mi sl N m 6 = (NTK F S mi sl N m).1 + nblack (NTK F S mi sl N m).2.2 := by show (if _ then _ else _) = _; rw [if_neg g]
        have n5 : NR F S mi sl N m 5 = nchange F S mi sl N m (NTK F S mi sl N m).2.2 := by show (if _ then _ else _) = _; rw [if_neg g]
        have n0 : NR F S mi sl N m 0 = nlost (NTK F S mi sl N m).2.2 := by show (if _ then _ else _) = _; rw [if_neg g]
        rcases h with ⟨-, h⟩ | ⟨w, -⟩
        case inr => rw [hr34, if_pos g] at w; exact absurd rfl w
        rcases h with ⟨w, z42, hz42, z43, hz43, z45, hz45, z46, hz46, h⟩ | ⟨w, r90, hr90, z92, hz92, z93, hz93, z95, hz95, r97, hr97, z99, hz99, r100, hr100, z103, hz103, z104, hz104, r106, hr106, z109, hz109, z110, hz110, z112, hz112, h⟩
        · -- the last
          rcases h with ⟨-, z51, hz51, h⟩ | ⟨w2, -⟩
          case inr => exact absurd w w2
          rw [em] at hz51
          subst hz51
          have n4 : NR F S mi sl N m 4 = -2 := by show (if _ then _ else (if _ then _ else _)) = _; rw [if_neg g, if_neg w]
          have c5 : nchange F S mi sl N m (NTK F S mi sl N m).2.2 = frN F S m := by unfold nchange; rw [if_neg w]
          have n7 : NR F S mi sl N m 7 = z46 := by
            show (nst F S mi sl N m _).1 = _
            unfold nst
            rw [if_neg g, if_neg w, c5, hz46, hz45, hz43, hz42, b1, b3, n6]
          have more := NM_more (lo2 := lo) ⟨M1, M2, M3⟩ (ch2 := upd ch m z46) (cf2 := upd cf m (frN F S m)) (st2 := upd st m (-2)) (by rw [n7]) (by rw [n5, c5]) (by rw [n4]) (by rw [n0, b5]) (fun k hk => rfl)
          refine ih _ _ _ _ _ _ _ _ (m + 1) (by omega) ⟨more, fun k hk hk2 => M2 k (by omega) hk2, fun v => absurd v w⟩ h
        · -- another comes
          rcases h with ⟨w2, -⟩ | ⟨-, z124, hz124, z126, hz126, z128, hz128, z130, hz130, z131, hz131, z133, hz133, z136, hz136, z139, hz139, z140, hz140, c1, c2, c3, c4, c5, hf, z149, hz149, h⟩
          · exact absurd w2 w
          have w : m + 1 < N := Decidable.not_not.mp w
          rw [em] at hz149
          subst hz149
          have kb := hb m hm2 r90 hr90
          rw [hs m hm2] at hz92
          rw [tc_0] at hz103
          rw [tc_1] at hz130
          have e136 : z136.toNatClampNeg = 34 + (m + 1) := by rw [hz136, hz133]; exact ix_34s (by omega)
          rw [e136] at hz139
          have k97 := le_sh hr97
          have k100 := mo_sh hr100
          have k106 := le_sh hr106
          have ks : r100 = nstart F S mi sl m (NTK F S mi sl N m).2.2 := by
            rw [k100, k97, hz99, b3, hz95, hz93, hz92, kb]
            rfl
          have kc : r106 = nchange F S mi sl N m (NTK F S mi sl N m).2.2 := by
            unfold nchange
            rw [if_pos w, k106, hz104, hz103, ks]
          have n4 : NR F S mi sl N m 4 = r100 := by show (if _ then _ else (if _ then _ else _)) = _; rw [if_neg g, if_pos w, ks]
          have eN : NTK F S mi sl N (m + 1) = (z112, z126, z140) := by
            rw [NTK_s]
            unfold nst
            rw [if_neg g, if_pos w, hz112, hz110, hz109, hz126, hz124, hz109, hz140, hz139, hz131, hz130, hz128, hz99, b1, b3, n6, ks, kc]
          have n7 : NR F S mi sl N m 7 = z112 := by
            show (nst F S mi sl N m (NTK F S mi sl N m)).1 = _
            rw [← NTK_s, eN]
          rw [upd_upd, upd_upd] at h
          have more := NM_more (lo2 := lo) ⟨M1, M2, M3⟩ (ch2 := upd ch m z112) (cf2 := upd cf m r106) (st2 := upd st m r100) (by rw [n7]) (by rw [n5, kc]) (by rw [n4]) (by rw [n0, b5]) (fun k hk => rfl)
          obtain ⟨y1, y2, y3, y4, y5⟩ := follows_m (by omega) (Or.inl rfl) hf
          refine ih _ _ _ _ _ _ _ _ (m + 1) (by omega) (NM_next hB w hN more M2 ?_ ?_ ?_ ?_ ?_) h
          · rw [y1, eN]
          · rw [y2, eN]
          · rw [y3, eN]
          · rw [y4, eN]
          · rw [y5, eN]

set_option maxRecDepth 100000
set_option maxHeartbeats 4000000
/-- what a night reads of the class, beside the reference's rows -/
def CN (F S yhnf : Nat → Int32) (yhmn : Int32) (yhmf zrf : Nat → Int32) (zmn : Int32) (zmf : Nat → Int32) (zpn : Int32) (zpf : Nat → Int32) : Prop :=
  (FIv F ∧ IV (F 12) 0 8) ∧ (yhnf 0 = F 0 ∧ yhnf 1 = F 1) ∧ (yhmn = F 11 ∧ zmn = F 8 ∧ zpn = F 12) ∧
  (∀ k : Nat, (k : Int) < (F 11).toInt → yhmf (3 * k) = F (114 + 3 * k) ∧ yhmf (3 * k + 2) = F (114 + 3 * k + 2) ∧ (F (114 + 3 * k) = 3 → yhmf (3 * k + 1) = F (114 + 3 * k + 1))) ∧
  (∀ k : Nat, (k : Int) < (F 6).toInt → zrf (3 * k) = S k ∧ zrf (3 * k + 1) = S (8 + k) ∧ zrf (3 * k + 2) = F (16 + 3 * k + 2)) ∧
  (∀ k : Nat, (k : Int) < (F 8).toInt → zmf (3 * k) = F (44 + 3 * k) ∧ zmf (3 * k + 1) = S (16 + k) ∧ zmf (3 * k + 2) = F (44 + 3 * k + 2)) ∧
  (∀ k : Nat, (k : Int) < (F 12).toInt → zpf (2 * k) = F (126 + k) ∧ zpf (2 * k + 1) = S (34 + k)) ∧
  (∀ k : Nat, (k : Int) < (F 12).toInt → 0 ≤ (F (126 + k)).toInt ∧ (F (126 + k)).toInt < (F 6).toInt)
theorem reel_c {zpf : Nat → Int32} {v r : Int32} {m : Nat} (e : zpf (2 * m) = v) (hm : m < 8) (h : R_s_reelAtX (nI m) zpf r) : r = v := by
  unfold R_s_reelAtX at h
  simp only [exists_eq_left] at h
  rw [h, tbN (R := 8) (V := 2) (c := 0) (a := 8) (b := 2) (j := 0) (by decide) (by decide) (by omega) (by omega) (by decide) hm (by omega), Nat.add_zero, e]
theorem meet_L {F S yhmf zrf zmf zpf : Nat → Int32} {mi N N8 : Nat} {κ : (Nat → Int32) → Prop} (n8 : F 8 = nI N8) (hN8 : N8 ≤ 12) (hmi : mi < 4) (hk : (mi : Int) < (F 11).toInt) (b6 : (F 6).toInt ≤ 8)
    (hM : ∀ k : Nat, (k : Int) < (F 11).toInt → yhmf (3 * k) = F (114 + 3 * k) ∧ yhmf (3 * k + 2) = F (114 + 3 * k + 2) ∧ (F (114 + 3 * k) = 3 → yhmf (3 * k + 1) = F (114 + 3 * k + 1)))
    (h1 : ∀ k : Nat, (k : Int) < (F 6).toInt → zrf (3 * k) = S k ∧ zrf (3 * k + 1) = S (8 + k) ∧ zrf (3 * k + 2) = F (16 + 3 * k + 2))
    (h2 : ∀ k : Nat, (k : Int) < (F 8).toInt → zmf (3 * k) = F (44 + 3 * k) ∧ zmf (3 * k + 1) = S (16 + k) ∧ zmf (3 * k + 2) = F (44 + 3 * k + 2)) (hN : N ≤ 8)
    (hr : ∀ k : Nat, k < N → 0 ≤ (F (126 + k)).toInt ∧ (F (126 + k)).toInt < (F 6).toInt) (h4 : ∀ k : Nat, k < N → zpf (2 * k) = F (126 + k) ∧ zpf (2 * k + 1) = S (34 + k)) :
    ∀ (t : Nat) (f : Nat → Int32) (m : Nat), m ≤ N → (∀ k : Nat, k < m → f (10 * k + 9) = bel F S mi (F (126 + k))) → R_n_meetX_L0 (nI mi) yhmf zrf (nI N8) zmf (nI N) zpf κ t f (nI m) → ∃ g : Nat → Int32, κ g ∧ ∀ k : Nat, k < N → g (10 * k + 9) = bel F S mi (F (126 + k)) := by
  intro t
  induction t with
  | zero => intro f m _ _ h; exact h.elim
  | succ t ih =>
    intro f m hm hI h
    rw [R_n_meetX_L0] at h
    rcases h with ⟨q, h⟩ | ⟨q, r15, hr15, r17, hr17, fa, hfa, z, hz, h⟩
    · rw [nI_gE (by omega) (by omega)] at q
      obtain rfl : m = N := by omega
      exact ⟨f, h, hI⟩
    · rw [nI_gE (by omega) (by omega)] at q
      have hm2 : m < N := by omega
      have e15 := reel_c (h4 m hm2).1 (by omega) hr15
      obtain ⟨g1, g2⟩ := hr m hm2
      obtain ⟨ρ, eρ, hρ⟩ := nI_oF g1
      rw [e15, eρ] at hr17
      have e17 := bel_c n8 hN8 hmi hk (ρ := ρ) (by omega) b6 hM h1 h2 hr17
      rw [← eρ] at e17
      rw [puN (c := 9) (j := 9) (by decide) (by omega) (by omega)] at hfa
      rw [nI_s (by omega)] at hz
      subst hz
      refine ih fa (m + 1) (by omega) (fun k hk2 => ?_) h
      by_cases e : k = m
      · subst e
        rw [hfa, upd_at, e17]
      · rw [hfa, upd_ne (by omega)]
        exact hI k (by omega)
theorem meet_0 {F S yhmf zrf zmf zpf : Nat → Int32} {mi N N8 t : Nat} {f : Nat → Int32} {κ : (Nat → Int32) → Prop} (n8 : F 8 = nI N8) (hN8 : N8 ≤ 12) (hmi : mi < 4) (hk : (mi : Int) < (F 11).toInt) (b6 : (F 6).toInt ≤ 8)
    (hM : ∀ k : Nat, (k : Int) < (F 11).toInt → yhmf (3 * k) = F (114 + 3 * k) ∧ yhmf (3 * k + 2) = F (114 + 3 * k + 2) ∧ (F (114 + 3 * k) = 3 → yhmf (3 * k + 1) = F (114 + 3 * k + 1)))
    (h1 : ∀ k : Nat, (k : Int) < (F 6).toInt → zrf (3 * k) = S k ∧ zrf (3 * k + 1) = S (8 + k) ∧ zrf (3 * k + 2) = F (16 + 3 * k + 2))
    (h2 : ∀ k : Nat, (k : Int) < (F 8).toInt → zmf (3 * k) = F (44 + 3 * k) ∧ zmf (3 * k + 1) = S (16 + k) ∧ zmf (3 * k + 2) = F (44 + 3 * k + 2)) (hN : N ≤ 8)
    (hr : ∀ k : Nat, k < N → 0 ≤ (F (126 + k)).toInt ∧ (F (126 + k)).toInt < (F 6).toInt) (h4 : ∀ k : Nat, k < N → zpf (2 * k) = F (126 + k) ∧ zpf (2 * k + 1) = S (34 + k))
    (h : R_n_meetX_L0 (nI mi) yhmf zrf (nI N8) zmf (nI N) zpf κ t f 0) : ∃ g : Nat → Int32, κ g ∧ ∀ k : Nat, k < N → g (10 * k + 9) = bel F S mi (F (126 + k)) :=
  meet_L n8 hN8 hmi hk b6 hM h1 h2 hN hr h4 t f 0 (by first | decide | omega) (fun k hk => absurd hk (by omega)) (by rw [nI_0]; exact h)
theorem run_c0 {F S yhnf zrf zpf zwf f : Nat → Int32} {mi N t : Nat} {ms sl zmd zwn u5 : Int32} {κ : Int32 → Int32 → Int32 → Int32 → Int32 → (Nat → Int32) → Prop} (hN8 : N ≤ 8) (e0 : yhnf 0 = F 0) (e1 : yhnf 1 = F 1) (b6 : (F 6).toInt ≤ 8) (hr : ∀ k : Nat, k < N → 0 ≤ (F (126 + k)).toInt ∧ (F (126 + k)).toInt < (F 6).toInt) (h1 : ∀ k : Nat, (k : Int) < (F 6).toInt → zrf (3 * k) = S k ∧ zrf (3 * k + 1) = S (8 + k) ∧ zrf (3 * k + 2) = F (16 + 3 * k + 2)) (h4 : ∀ k : Nat, k < N → zpf (2 * k) = F (126 + k) ∧ zpf (2 * k + 1) = S (34 + k))
    (h9 : ∀ k : Nat, k < N → f (10 * k + 9) = bel F S mi (F (126 + k))) (h : R_n_runX_L0 ms sl 0 (nI N) yhnf zmd zrf zpf zwn zwf κ t f 0 0 u5 0 0 0) : ∃ g : Nat → Int32, κ 0 u5 (NTK F S mi sl N N).1 (NTK F S mi sl N N).2.1 (NTK F S mi sl N N).2.2 g ∧ (∀ k c : Nat, k < N → c < 9 → g (10 * k + c) = NR F S mi sl N k c) ∧ (∀ k : Nat, k < N → g (10 * k + 9) = bel F S mi (F (126 + k))) :=
  run_c_L hN8 e0 e1 b6 hr h1 h4 t f 0 0 u5 0 0 0 (by first | decide | omega) (fun k c hk => absurd hk (by omega)) h9 rfl (by rw [nI_0]; exact h)
/-- the ten columns of a told night -/
def COL (F S : Nat → Int32) (mi N k j : Nat) : Int32 := if j = 9 then bel F S mi (F (126 + k)) else NR F S mi (F (114 + 3 * mi + 2)) N k j
def NG (F S : Nat → Int32) (mi N : Nat) (g : Nat → Int32) : Prop := ∀ k j : Nat, k < N → j < 10 → g (10 * k + j) = COL F S mi N k j
theorem inN {n : Int32} {m : Nat} (hm : m ≤ 1000) (h : (m : Int) < n.toInt) : ¬ (nI m < 0 ∨ n ≤ nI m) := by
  rw [lt_I, le_I, nI_toInt (by omega), zI]; omega
theorem night_c {F S : Nat → Int32} {p0 xsnapped xmostSlip xslip xisDrawn xseed xtick xmotorTick xahead nrn yhmn zmd zmn zwn zpn xsnapped2 xmostSlip2 xslip2 xisDrawn2 xseed2 xtick2 xmotorTick2 xahead2 nrk r : Int32} {nrf yhnf yhmf zrf zmf zwf zpf nrg : Nat → Int32} (hC : CN F S yhnf yhmn yhmf zrf zmn zmf zpn zpf) (h : R_c_runNightX p0 xsnapped xmostSlip xslip xisDrawn xseed xtick xmotorTick xahead nrn nrf yhnf yhmn yhmf zmd zrf zmn zmf zwn zwf zpn zpf xsnapped2 xmostSlip2 xslip2 xisDrawn2 xseed2 xtick2 xmotorTick2 xahead2 nrg nrk r) : ((p0 < 0 ∨ F 11 ≤ p0) ∧ r = 0) ∨ (r = 1 ∧ ∃ mi : Nat, p0 = nI mi ∧ mi < 4 ∧ (mi : Int) < (F 11).toInt ∧ nrk = F 12 ∧ NG F S mi (F 12).toInt.toNat nrg) := by
  obtain ⟨⟨hB, i12⟩, ⟨e0, e1⟩, ⟨e11, e8, e12⟩, hM, h1, h2, h4, hr⟩ := hC
  subst e11 e8 e12
  obtain ⟨b6, -, b8, b9, b10, b11, -, -⟩ := hB
  obtain ⟨N8, n8, hN8⟩ := ivN 12 b8
  obtain ⟨N11, n11, hN11⟩ := ivN 4 b11
  obtain ⟨N, n12, hN⟩ := ivN 8 i12
  have tN : (F 12).toInt = N := by rw [n12, nI_toInt (by omega)]
  have eN : (F 12).toInt.toNat = N := by omega
  unfold R_c_runNightX at h
  obtain ⟨r1, hr1, h⟩ := h
  by_cases q : p0 < 0 ∨ F 11 ≤ p0
  · rw [if_pos q] at hr1
    rcases h with ⟨w, -⟩ | ⟨-, a⟩
    · exact absurd hr1 w
    · exact Or.inl ⟨q, a.2.2.2.2.2.2.2.2.2.2⟩
  · rw [if_neg q] at hr1
    rcases h with ⟨-, ms, g5, k6, hmeet, r10, hr10, dr, sl, hslip, sn, sd, tk, mt, ah, g21, hrun, a⟩ | ⟨w, -⟩
    case inr => rw [hr1] at w; exact absurd w (by decide)
    obtain ⟨mi, rfl, hmi, hmk⟩ := of_C n11 (by omega) q
    have hr' : ∀ k : Nat, k < N → 0 ≤ (F (126 + k)).toInt ∧ (F (126 + k)).toInt < (F 6).toInt := fun k hk => hr k (by omega)
    have h4' : ∀ k : Nat, k < N → zpf (2 * k) = F (126 + k) ∧ zpf (2 * k + 1) = S (34 + k) := fun k hk => h4 k (by omega)
    unfold R_n_meetX at hmeet
    obtain ⟨r1', hr1', z3, hz3, t, hL⟩ := hmeet
    rw [n8, n12] at hL
    obtain ⟨g, hg, h9⟩ := meet_0 n8 hN8 (by omega) hmk b6.2 hM h1 h2 hN hr' h4' hL
    obtain ⟨-, eg, ek⟩ := hg
    subst eg ek
    unfold R_n_slipByX at hslip
    obtain ⟨ed, es⟩ := hslip
    have e10 : r10 = F (114 + 3 * mi + 2) := by rw [hr10, tbN (R := 4) (V := 3) (c := 2) (a := 4) (b := 3) (j := 2) (by decide) (by decide) (by omega) (by omega) (by decide) (by omega) (by omega), (hM mi hmk).2.1]
    unfold R_n_runX at hrun
    obtain ⟨t2, hL2⟩ := hrun
    rw [ed, es, e10] at hL2
    obtain ⟨g2, hg2, hI, h9'⟩ := run_c0 hN e0 e1 b6.2 hr' h1 h4' h9 hL2
    obtain ⟨-, -, -, -, -, eg2⟩ := hg2
    obtain ⟨-, -, -, -, -, -, -, -, ag, ak, ar⟩ := a
    refine Or.inr ⟨ar, mi, rfl, by omega, hmk, by rw [ak, n12], fun k j hk hj => ?_⟩
    rw [eN] at hk ⊢
    rw [ag, eg2]
    unfold COL
    by_cases e : j = 9
    · rw [if_pos e, e]; exact h9' k hk
    · rw [if_neg e]; exact hI k j hk (by omega)
theorem of_c {F S : Nat → Int32} {p0 p1 p2 xsnapped xmostSlip xslip xisDrawn xseed xtick xmotorTick xahead nrn yhmn zmd zmn zwn zpn tr2 xsnapped2 xmostSlip2 xslip2 xisDrawn2 xseed2 xtick2 xmotorTick2 xahead2 nrk r : Int32} {nrf yhnf yhmf zrf zmf zwf zpf nrg : Nat → Int32} {j : Nat} (hC : CN F S yhnf yhmn yhmf zrf zmn zmf zpn zpf) (hj : p2.toInt = j) (hj10 : j < 10) (h : R_c_ofNightX p0 p1 p2 xsnapped xmostSlip xslip xisDrawn xseed xtick xmotorTick xahead nrn nrf yhnf yhmn yhmf zmd zrf zmn zmf zwn zwf zpn zpf tr2 xsnapped2 xmostSlip2 xslip2 xisDrawn2 xseed2 xtick2 xmotorTick2 xahead2 nrg nrk r) : (((p1 < 0 ∨ F 12 ≤ p1) ∨ (p0 < 0 ∨ F 11 ≤ p0)) ∧ tr2 = 1 ∧ r = -1) ∨ (∃ mi k : Nat, p0 = nI mi ∧ mi < 4 ∧ (mi : Int) < (F 11).toInt ∧ p1 = nI k ∧ (k : Int) < (F 12).toInt ∧ tr2 = 0 ∧ r = COL F S mi (F 12).toInt.toNat k j) := by
  have hC' := hC
  obtain ⟨⟨hB, i12⟩, -, ⟨e11, e8, e12⟩, -⟩ := hC'
  unfold R_c_ofNightX at h
  obtain ⟨r1, hr1, h⟩ := h
  rw [e12] at hr1
  by_cases q : p1 < 0 ∨ F 12 ≤ p1
  · rw [if_pos q] at hr1
    rcases h with ⟨-, t5, r6, hf, et, a⟩ | ⟨w, -⟩
    · unfold R_c_refuseX at hf
      exact Or.inl ⟨Or.inl q, et.trans hf.1, a.2.2.2.2.2.2.2.2.2.2.trans hf.2⟩
    · exact absurd hr1 w
  · rw [if_neg q] at hr1
    rcases h with ⟨w, -⟩ | ⟨-, s8, s9, s10, s11, s12, s13, s14, s15, g16, k17, r18, hrun, h⟩
    · rw [hr1] at w; exact absurd w (by decide)
    obtain ⟨N, n12, hN⟩ := ivN 8 i12
    obtain ⟨k, rfl, hk, hk2⟩ := of_C n12 (by omega) q
    rcases night_c hC hrun with ⟨u1, u2⟩ | ⟨u2, mi, rfl, hmi, hmk, ek, hG⟩
    · rcases h with ⟨w, -⟩ | ⟨-, t28, r29, hf, et, a⟩
      · exact absurd u2 w
      · unfold R_c_refuseX at hf
        exact Or.inl ⟨Or.inr u1, et.trans hf.1, a.2.2.2.2.2.2.2.2.2.2.trans hf.2⟩
    · rcases h with ⟨-, r22, hr22, t24, r25, hf, et, a⟩ | ⟨w, -⟩
      · unfold R_c_tellX at hf
        refine Or.inr ⟨mi, k, rfl, hmi, hmk, rfl, hk2, et.trans hf.1, ?_⟩
        rw [a.2.2.2.2.2.2.2.2.2.2, hf.2, hr22, tbN (R := 8) (V := 10) (a := 8) (b := 10) (by decide) (by decide) (by omega) (by omega) hj (by omega) hj10]
        exact hG k j (by omega) hj10
      · rw [u2] at w; exact absurd w (by decide)
/-- what a told night reads of the reference -/
def MN (F S : Nat → Int32) (hh : Int32) : Prop :=
  (IV (F 11) 0 4 ∧ IV (F 12) 0 8) ∧ (hh = 0 → F 11 = 0 ∧ F 12 = 0) ∧ NB F S (F 12).toInt.toNat ∧ (∀ k : Nat, (k : Int) < (F 12).toInt → 0 ≤ (F (126 + k)).toInt ∧ (F (126 + k)).toInt ≤ 8) ∧
  (∀ mi k : Nat, (mi : Int) < (F 11).toInt → (k : Int) < (F 12).toInt → ∀ r : Int32, R_m_believesOfX (nI mi) (nI k) F S r → r = bel F S mi (F (126 + k)))
theorem isManX {F : Nat → Int32} {p hh r : Int32} (hb : IV (F 11) 0 4) (h0 : hh = 0 → F 11 = 0) (h : R_m_isManX p hh F r) : r = (if p < 0 ∨ F 11 ≤ p then 0 else 1) := by
  unfold R_m_isManX at h
  rw [tc_11] at h
  exact isAny (z := 0) (iv_w hb (by decide) (by decide)) h0 h
theorem told_L {F : Nat → Int32} {mi : Nat} {κ : (Nat → Int32) → Prop} (hmi : mi ≤ 100) : ∀ (t : Nat) (f : Nat → Int32) (m : Nat), m ≤ 8 → (∀ k : Nat, k < m → f k = F (114 + 3 * mi + 2)) → R_m_layToldX_L0 (nI mi) F κ t f (nI m) → ∃ g : Nat → Int32, κ g ∧ ∀ k : Nat, k < 8 → g k = F (114 + 3 * mi + 2) := by
  intro t
  induction t with
  | zero => intro f m _ _ h; exact h.elim
  | succ t ih =>
    intro f m hm hI h
    have e8 : (8 : Int32) = nI 8 := by decide
    rw [R_m_layToldX_L0, e8] at h
    rcases h with ⟨q, h⟩ | ⟨q, z22, h22, z25, h25, z28, h28, z31, h31, z35, h35, h⟩
    · rw [nI_gE (by omega) (by omega)] at q
      obtain rfl : m = 8 := by omega
      exact ⟨f, h, hI⟩
    · rw [nI_gE (by omega) (by omega)] at q
      rw [h28, h25, h22, ix_114_3_2 (by omega)] at h31
      rw [nI_s (by omega)] at h35
      subst h35
      refine ih _ (m + 1) (by omega) (fun k hk => ?_) h
      rw [nI_c (by omega)]
      by_cases e : k = m
      · subst e
        rw [upd_at, h31]
      · rw [upd_ne e]
        exact hI k (by omega)
theorem told_0 {F : Nat → Int32} {mi t : Nat} {f : Nat → Int32} {κ : (Nat → Int32) → Prop} (hmi : mi ≤ 100) (h : R_m_layToldX_L0 (nI mi) F κ t f 0) : ∃ g : Nat → Int32, κ g ∧ ∀ k : Nat, k < 8 → g k = F (114 + 3 * mi + 2) :=
  told_L hmi t f 0 (by first | decide | omega) (fun k hk => absurd hk (by omega)) (by rw [nI_0]; exact h)
theorem NM_0 {F S be bl ch cf fr lo mo st : Nat → Int32} {mi N : Nat} {sl : Int32} : NM F S mi sl N 0 (upd be 0 0) (upd bl 0 0) ch cf (upd fr 0 0) (upd lo 0 0) (upd mo 0 0) st := by
  have n0 : NTK F S mi sl N 0 = (0, 0, 0) := rfl
  refine ⟨fun k hk => absurd hk (by omega), fun k hk _ => ?_, fun _ => ?_⟩
  · obtain rfl : k = 0 := by omega
    have c6 : NR F S mi sl N 0 6 = 0 := by
      show (if frN F S 0 ≤ 0 then (0 : Int32) else 0 + nblack 0) = 0
      split <;> decide
    have c1 : NR F S mi sl N 0 1 = 0 := by
      show (if frN F S 0 ≤ 0 then (0 : Int32) else nblack 0) = 0
      split <;> decide
    have c8 : NR F S mi sl N 0 8 = 0 := rfl
    rw [upd_at, upd_at, upd_at, upd_at, c6, c1, c8, n0]
    exact ⟨rfl, rfl, by decide, rfl⟩
  · rw [upd_at, n0]
    decide
theorem lay_L0 {F S sp : Nat → Int32} {mi N t : Nat} {sl : Int32} {be bl ch cf fr lo mo st : Nat → Int32} {κ : (Nat → Int32) → (Nat → Int32) → (Nat → Int32) → (Nat → Int32) → (Nat → Int32) → (Nat → Int32) → (Nat → Int32) → (Nat → Int32) → Prop} (hB : NB F S N) (h1N : 1 ≤ N) (hN : N ≤ 8) (hr : ∀ k : Nat, k < N → 0 ≤ (F (126 + k)).toInt ∧ (F (126 + k)).toInt ≤ 8) (hb : ∀ k : Nat, k < N → ∀ r : Int32, R_m_believesOfX (nI mi) (nI k) F S r → r = bel F S mi (F (126 + k))) (hs : ∀ k : Nat, k < N → sp k = sl) (hM : NM F S mi sl N 0 be bl ch cf fr lo mo st) (h : R_m_layNightX_L0 (nI mi) F S sp (nI N - 1) κ t be bl ch cf fr lo mo st 0) : ∃ be2 bl2 ch2 cf2 fr2 lo2 mo2 st2 : Nat → Int32, κ be2 bl2 ch2 cf2 fr2 lo2 mo2 st2 ∧ NM F S mi sl N N be2 bl2 ch2 cf2 fr2 lo2 mo2 st2 :=
  lay_L hB h1N hN hr hb hs t be bl ch cf fr lo mo st 0 (by first | decide | omega) hM (by rw [nI_0]; exact h)
theorem lay_0 {F S : Nat → Int32} {mi N : Nat} {sl : Int32} {d_from d_begin d_motor d_change d_startFrame d_changeFrame d_lostAt d_blackAt d_slips d_begin2 d_blackAt2 d_change2 d_changeFrame2 d_from2 d_lostAt2 d_motor2 d_startFrame2 : Nat → Int32} (hB : NB F S N) (h12 : F 12 = nI N) (h1N : 1 ≤ N) (hN : N ≤ 8) (hr : ∀ k : Nat, k < N → 0 ≤ (F (126 + k)).toInt ∧ (F (126 + k)).toInt ≤ 8) (hb : ∀ k : Nat, k < N → ∀ r : Int32, R_m_believesOfX (nI mi) (nI k) F S r → r = bel F S mi (F (126 + k))) (hs : ∀ k : Nat, k < N → d_slips k = sl) (h : R_m_layNightX (nI mi) F S d_from d_begin d_motor d_change d_startFrame d_changeFrame d_lostAt d_blackAt d_slips d_begin2 d_blackAt2 d_change2 d_changeFrame2 d_from2 d_lostAt2 d_motor2 d_startFrame2) : NM F S mi sl N N d_begin2 d_blackAt2 d_change2 d_changeFrame2 d_from2 d_lostAt2 d_motor2 d_startFrame2 := by
  unfold R_m_layNightX at h
  obtain ⟨z1, hz1, z4, hz4, t, hL⟩ := h
  rw [tc_12, h12] at hz1
  rw [hz4, hz1, tc_0] at hL
  obtain ⟨b', l', c', cf', f', lo', m', s', hk, hM⟩ := lay_L0 hB h1N hN hr hb hs NM_0 hL
  obtain ⟨rfl, rfl, rfl, rfl, rfl, rfl, rfl, rfl⟩ := hk
  exact hM
theorem told_m {F S : Nat → Int32} {hh : Int32} {p0 p1 r : Int32} {d_from d_begin d_motor d_change d_startFrame d_changeFrame d_lostAt d_blackAt d_slips d_begin2 d_blackAt2 d_change2 d_changeFrame2 d_from2 d_lostAt2 d_motor2 d_slips2 d_startFrame2 : Nat → Int32} (hm : MN F S hh) (h : R_m_canTellX p0 p1 hh F S d_from d_begin d_motor d_change d_startFrame d_changeFrame d_lostAt d_blackAt d_slips d_begin2 d_blackAt2 d_change2 d_changeFrame2 d_from2 d_lostAt2 d_motor2 d_slips2 d_startFrame2 r) : (((p0 < 0 ∨ F 11 ≤ p0) ∨ (p1 < 0 ∨ F 12 ≤ p1)) ∧ r = 0) ∨ (∃ mi k : Nat, p0 = nI mi ∧ mi < 4 ∧ (mi : Int) < (F 11).toInt ∧ p1 = nI k ∧ (k : Int) < (F 12).toInt ∧ r = 1 ∧ NM F S mi (F (114 + 3 * mi + 2)) (F 12).toInt.toNat (F 12).toInt.toNat d_begin2 d_blackAt2 d_change2 d_changeFrame2 d_from2 d_lostAt2 d_motor2 d_startFrame2) := by
  obtain ⟨⟨i11, i12⟩, h0, hB, hr, hb⟩ := hm
  unfold R_m_canTellX at h
  obtain ⟨r1, hr1, h⟩ := h
  have hr1 := isManX i11 (fun q => (h0 q).1) hr1
  by_cases q : p0 < 0 ∨ F 11 ≤ p0
  · rw [if_pos q] at hr1
    rcases h with ⟨-, a⟩ | ⟨w, -⟩
    · exact Or.inl ⟨Or.inl q, a.2.2.2.2.2.2.2.2.2⟩
    · exact absurd hr1 w
  · rw [if_neg q] at hr1
    rcases h with ⟨w, -⟩ | ⟨-, r10, hr10, h⟩
    · rw [hr1] at w; exact absurd w (by decide)
    have hr10 := isPlaceX i12 (fun v => (h0 v).2) hr10
    by_cases q2 : p1 < 0 ∨ F 12 ≤ p1
    · rw [if_pos q2] at hr10
      rcases h with ⟨w, -⟩ | ⟨-, a⟩
      · exact absurd hr10 w
      · exact Or.inl ⟨Or.inr q2, a.2.2.2.2.2.2.2.2.2⟩
    · rw [if_neg q2] at hr10
      rcases h with ⟨-, b', l', c', cf', f', lo', m', s', st', ht, a⟩ | ⟨w, -⟩
      case inr => rw [hr10] at w; exact absurd w (by decide)
      obtain ⟨rfl, rfl, rfl, rfl, rfl, rfl, rfl, rfl, rfl, er⟩ := a
      obtain ⟨N11, n11, hN11⟩ := ivN 4 i11
      obtain ⟨N, n12, hN⟩ := ivN 8 i12
      have tN : (F 12).toInt = N := by rw [n12, nI_toInt (by omega)]
      have eN : (F 12).toInt.toNat = N := by omega
      obtain ⟨mi, rfl, hmi, hmk⟩ := of_C n11 (by omega) q
      obtain ⟨k, rfl, hk, hk2⟩ := of_C n12 (by omega) q2
      unfold R_m_layToldX at ht
      obtain ⟨t, hL⟩ := ht
      obtain ⟨g, hg, hs⟩ := told_0 (by omega) hL
      obtain ⟨x1, x2, x3, x4, x5, x6, x7, x8, hlay, rfl, rfl, rfl, rfl, rfl, rfl, rfl, rfl, rfl⟩ := hg
      refine Or.inr ⟨mi, k, rfl, by omega, hmk, rfl, hk2, er, ?_⟩
      rw [eN] at hB ⊢
      exact lay_0 hB n12 (by omega) hN (fun k hk => hr k (by omega)) (fun k hk => hb mi k hmk (by omega)) (fun k hk => hs k (by omega)) hlay
theorem B_changes {F S : Nat → Int32} {hh r2 : Int32} {p0 p1 xsnapped xmostSlip xslip xisDrawn xseed xtick xmotorTick xahead nrn yhmn zmd zmn zwn zpn tr2 xsnapped2 xmostSlip2 xslip2 xisDrawn2 xseed2 xtick2 xmotorTick2 xahead2 nrk r : Int32} {nrf yhnf yhmf zrf zmf zwf zpf nrg : Nat → Int32} {d_from d_begin d_motor d_change d_startFrame d_changeFrame d_lostAt d_blackAt d_slips d_begin2 d_blackAt2 d_change2 d_changeFrame2 d_from2 d_lostAt2 d_motor2 d_slips2 d_startFrame2 : Nat → Int32} {m_thrown2 m_trouble2 : Int32} (hC : CN F S yhnf yhmn yhmf zrf zmn zmf zpn zpf) (hN : MN F S hh) (hc : R_c_changesX p0 p1 xsnapped xmostSlip xslip xisDrawn xseed xtick xmotorTick xahead nrn nrf yhnf yhmn yhmf zmd zrf zmn zmf zwn zwf zpn zpf tr2 xsnapped2 xmostSlip2 xslip2 xisDrawn2 xseed2 xtick2 xmotorTick2 xahead2 nrg nrk r) (hm : R_m_changesX p0 p1 hh F S d_from d_begin d_motor d_change d_startFrame d_changeFrame d_lostAt d_blackAt d_slips d_begin2 d_blackAt2 d_change2 d_changeFrame2 d_from2 d_lostAt2 d_motor2 d_slips2 d_startFrame2 m_thrown2 m_trouble2 r2) : r = r2 ∧ tr2 = m_trouble2 := by
  have b11 : (F 11).toInt ≤ 4 := hN.1.1.2
  have b12 : (F 12).toInt ≤ 8 := hN.1.2.2
  unfold R_c_changesX at hc
  obtain ⟨t1, s2, s3, s4, s5, s6, s7, s8, s9, g10, k11, r12, hof, et, a⟩ := hc
  have er := a.2.2.2.2.2.2.2.2.2.2
  unfold R_m_changesX R_m_goodX at hm
  obtain ⟨u1, u2, ⟨g1, g2⟩, b', l', c', cf', f', lo', m', sl', st', r14, hcan, h⟩ := hm
  rcases of_c hC (j := 5) (by decide) (by omega) hof with ⟨q, e1, e2⟩ | ⟨mi, k, rfl, hmi, hmk, rfl, hk, e1, e2⟩
  · rcases told_m hN hcan with ⟨q2, w⟩ | ⟨mi, k, rfl, hmi, hmk, rfl, hk, -⟩
    · rcases h with ⟨-, t20, r21, hno, -, -, -, -, -, -, -, -, -, -, etr, er2⟩ | ⟨w2, -⟩
      · unfold R_m_noX at hno
        exact ⟨by rw [er, e2, er2, hno.2], by rw [et, e1, etr, hno.1]⟩
      · exact absurd w w2
    · exact (q.elim (inN (by omega) hk) (inN (by omega) hmk)).elim
  · rcases told_m hN hcan with ⟨q2, w⟩ | ⟨mi2, k2, e3, hmi2, -, e4, hk3, er14, hM, -⟩
    · exact (q2.elim (inN (by omega) hmk) (inN (by omega) hk)).elim
    · obtain rfl : mi = mi2 := nI_inj (by omega) (by omega) e3
      obtain rfl : k = k2 := nI_inj (by omega) (by omega) e4
      rcases h with ⟨w, -⟩ | ⟨-, z29, hz, -, -, -, -, -, -, -, -, -, -, etr, er2⟩
      · rw [er14] at w; exact absurd w (by decide)
      refine ⟨?_, by rw [et, e1, etr, g2]⟩
      have hkN : k < (F 12).toInt.toNat := by omega
      rw [er, e2, er2]
      rw [hz, nI_c (by omega), (hM k hkN).2.1]
      rfl

set_option maxRecDepth 100000
set_option maxHeartbeats 4000000

set_option maxRecDepth 100000
set_option maxHeartbeats 4000000

set_option maxRecDepth 100000
set_option maxHeartbeats 4000000

set_option maxRecDepth 100000
set_option maxHeartbeats 4000000
theorem LR_CN {xtpd : Int32} {tpf yhnf : Nat → Int32} {yhtn : Int32} {yhtf : Nat → Int32} {yhjn : Int32} {yhjf : Nat → Int32} {yhmn : Int32} {yhmf : Nat → Int32} {yhbn : Int32} {yhbf : Nat → Int32} {yhsn : Int32} {yhsf : Nat → Int32} {yhcn : Int32} {yhcf : Nat → Int32} {zrn zmn zwn zpn zmd ztr : Int32} {zrf zmf zwf zpf : Nat → Int32} {kac knx kim : Int32} {cf : Nat → SC} {m_taped : Int32} {d_tape d_r d_st d_undone d_kept : Nat → Int32} {m_undos m_images m_hasHouse : Int32} (h : LR xtpd tpf yhnf yhtn yhtf yhjn yhjf yhmn yhmf yhbn yhbf yhsn yhsf yhcn yhcf zrn zmn zwn zpn zmd ztr zrf zmf zwf zpf kac knx kim cf m_taped d_tape d_r d_st d_undone d_kept m_undos m_images m_hasHouse) : CN d_r d_st yhnf yhmn yhmf zrf zmn zmf zpn zpf := by
  obtain ⟨-, ⟨hF, ⟨⟨a1, a2, a3, a4, a5, a6⟩, h1, h2, h3, h4⟩, hK, h01, h0, hp⟩, ⟨⟨t1, t2, t3, t4, t5⟩, u1, u2, u3, u4, u5, u6, u7, u8⟩, hB, hV, hS⟩ := h
  refine ⟨⟨hB, hF.2.2.2⟩, ⟨u2 0 (by first | decide | omega), u2 1 (by first | decide | omega)⟩, ⟨t3, a2, a4⟩, u5, h1, h2, h4, fun k hk => ?_⟩
  have q := hV.1.2.2.2.2.1 k hk
  unfold Lt at q
  rw [Nat.one_mul] at q
  exact q
theorem LR_MN {xtpd : Int32} {tpf yhnf : Nat → Int32} {yhtn : Int32} {yhtf : Nat → Int32} {yhjn : Int32} {yhjf : Nat → Int32} {yhmn : Int32} {yhmf : Nat → Int32} {yhbn : Int32} {yhbf : Nat → Int32} {yhsn : Int32} {yhsf : Nat → Int32} {yhcn : Int32} {yhcf : Nat → Int32} {zrn zmn zwn zpn zmd ztr : Int32} {zrf zmf zwf zpf : Nat → Int32} {kac knx kim : Int32} {cf : Nat → SC} {m_taped : Int32} {d_tape d_r d_st d_undone d_kept : Nat → Int32} {m_undos m_images m_hasHouse : Int32} (h : LR xtpd tpf yhnf yhtn yhtf yhjn yhjf yhmn yhmf yhbn yhbf yhsn yhsf yhcn yhcf zrn zmn zwn zpn zmd ztr zrf zmf zwf zpf kac knx kim cf m_taped d_tape d_r d_st d_undone d_kept m_undos m_images m_hasHouse) : MN d_r d_st m_hasHouse := by
  obtain ⟨-, ⟨hF, ⟨⟨a1, a2, a3, a4, a5, a6⟩, h1, h2, h3, h4⟩, hK, h01, h0, hp⟩, ⟨⟨t1, t2, t3, t4, t5⟩, u1, u2, u3, u4, u5, u6, u7, u8⟩, hB, hV, hS⟩ := h
  have hr : ∀ k : Nat, (k : Int) < (d_r 12).toInt → 0 ≤ (d_r (126 + k)).toInt ∧ (d_r (126 + k)).toInt < (d_r 6).toInt := fun k hk => by
    have q := hV.1.2.2.2.2.1 k hk
    unfold Lt at q
    rw [Nat.one_mul] at q
    exact q
  have b6 := hF.1.2
  have b11 := hB.2.2.2.2.2.1.2
  have b12 := hF.2.2.2.2
  obtain ⟨N8, n8, hN8⟩ := ivN 12 hF.2.1
  refine ⟨⟨hB.2.2.2.2.2.1, hF.2.2.2⟩, fun q => ⟨(hS.2.2.2.2.2 q).1 11 (by first | decide | omega), (h0 q).2.2.2⟩, ⟨hV.2.1.1, hV.2.1.2.1, fun k hk => ?_, fun k hk => hS.1.2.2.2.1 k (by omega)⟩, fun k hk => ⟨(hr k hk).1, by have := (hr k hk).2; omega⟩, fun mi k hmi hk r hrr => ?_⟩
  · have q := hr k (by omega)
    exact (hS.1.1 (d_r (126 + k)).toInt.toNat (by omega)).1
  · have q := hr k hk
    exact bel_m n8 hN8 (by omega) (by omega) rfl ⟨q.1, by omega⟩ (hV.2.2.2.2.2.2.2.2.1 mi hmi).1 (hV.2.2.2.2.2.2.2.2.2.2.2) (fun m hm => (hS.1.2.1 m hm).1) hrr
theorem LR_changesA {xtpd : Int32} {tpf yhnf : Nat → Int32} {yhtn : Int32} {yhtf : Nat → Int32} {yhjn : Int32} {yhjf : Nat → Int32} {yhmn : Int32} {yhmf : Nat → Int32} {yhbn : Int32} {yhbf : Nat → Int32} {yhsn : Int32} {yhsf : Nat → Int32} {yhcn : Int32} {yhcf : Nat → Int32} {zrn zmn zwn zpn zmd ztr : Int32} {zrf zmf zwf zpf : Nat → Int32} {kac knx kim : Int32} {cf : Nat → SC} {m_taped : Int32} {d_tape d_r d_st d_undone d_kept : Nat → Int32} {m_undos m_images m_hasHouse : Int32} {a1 a2 r r2 : Int32} (h : LR xtpd tpf yhnf yhtn yhtf yhjn yhjf yhmn yhmf yhbn yhbf yhsn yhsf yhcn yhcf zrn zmn zwn zpn zmd ztr zrf zmf zwf zpf kac knx kim cf m_taped d_tape d_r d_st d_undone d_kept m_undos m_images m_hasHouse) (hx : ∃ xsnapped : Int32, ∃ xmostSlip : Int32, ∃ xslip : Int32, ∃ xisDrawn : Int32, ∃ xseed : Int32, ∃ xtick : Int32, ∃ xmotorTick : Int32, ∃ xahead : Int32, ∃ nrn : Int32, ∃ nrf : Nat → Int32, ∃ tr2 : Int32, ∃ xsnapped2 : Int32, ∃ xmostSlip2 : Int32, ∃ xslip2 : Int32, ∃ xisDrawn2 : Int32, ∃ xseed2 : Int32, ∃ xtick2 : Int32, ∃ xmotorTick2 : Int32, ∃ xahead2 : Int32, ∃ nrg : Nat → Int32, ∃ nrk : Int32, R_c_changesX a1 a2 xsnapped xmostSlip xslip xisDrawn xseed xtick xmotorTick xahead nrn nrf yhnf yhmn yhmf zmd zrf zmn zmf zwn zwf zpn zpf tr2 xsnapped2 xmostSlip2 xslip2 xisDrawn2 xseed2 xtick2 xmotorTick2 xahead2 nrg nrk r) (hm : ∃ d_from : Nat → Int32, ∃ d_begin : Nat → Int32, ∃ d_motor : Nat → Int32, ∃ d_change : Nat → Int32, ∃ d_startFrame : Nat → Int32, ∃ d_changeFrame : Nat → Int32, ∃ d_lostAt : Nat → Int32, ∃ d_blackAt : Nat → Int32, ∃ d_slips : Nat → Int32, ∃ d_begin2 : Nat → Int32, ∃ d_blackAt2 : Nat → Int32, ∃ d_change2 : Nat → Int32, ∃ d_changeFrame2 : Nat → Int32, ∃ d_from2 : Nat → Int32, ∃ d_lostAt2 : Nat → Int32, ∃ d_motor2 : Nat → Int32, ∃ d_slips2 : Nat → Int32, ∃ d_startFrame2 : Nat → Int32, ∃ m_thrown2 : Int32, ∃ m_trouble2 : Int32, R_m_changesX a1 a2 m_hasHouse d_r d_st d_from d_begin d_motor d_change d_startFrame d_changeFrame d_lostAt d_blackAt d_slips d_begin2 d_blackAt2 d_change2 d_changeFrame2 d_from2 d_lostAt2 d_motor2 d_slips2 d_startFrame2 m_thrown2 m_trouble2 r2) : r = r2 := by
  obtain ⟨_, _, _, _, _, _, _, _, _, _, _, _, _, _, _, _, _, _, _, _, _, hx⟩ := hx
  obtain ⟨_, _, _, _, _, _, _, _, _, _, _, _, _, _, _, _, _, _, _, _, hm⟩ := hm
  exact (B_changes (LR_CN h) (LR_MN h) hx hm).1
