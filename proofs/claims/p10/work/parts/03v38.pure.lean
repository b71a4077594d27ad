set_option maxRecDepth 100000
set_option maxHeartbeats 4000000
def mblack (a : Int32) : Int32 := if 0 < a then 0 else -a
theorem negI {a : Int32} (h : -2147483648 < a.toInt) : (-a).toInt = -a.toInt := by
  have h2 := (rng a).2
  rw [Int32.toInt_neg, bm32 (by omega) (by omega)]
theorem nb_mb {a : Int32} (h : -100000 ≤ a.toInt) : nblack a = mblack a := by
  have e := negI (a := a) (by omega)
  unfold nblack mblack
  by_cases q : 0 < a
  · rw [if_pos q, if_pos (by rw [lt_I, e, zI]; rw [lt_I, zI] at q; omega)]
  · rw [if_neg q, if_neg (by rw [lt_I, e, zI]; rw [lt_I, zI] at q; omega)]
theorem nb_0 {a : Int32} (h : 0 < a) : nblack a = 0 := by
  have h2 := (rng a).2
  rw [lt_I, zI] at h
  have e := negI (a := a) (by omega)
  unfold nblack
  rw [if_pos (by rw [lt_I, e, zI]; omega)]
/-- what the numbers of a night need of the State -/
def NB (F S : Nat → Int32) (N : Nat) : Prop := IV (F 0) 0 50 ∧ IV (F 1) 0 50 ∧ (∀ k : Nat, k < N → IV (frN F S k) 2 2000) ∧ (∀ k : Nat, k < N → IV (S (34 + k)) 0 199)
theorem NTK_b {F S : Nat → Int32} {mi N : Nat} {sl : Int32} (hB : NB F S N) : ∀ k : Nat, k ≤ N → IV (NTK F S mi sl N k).2.2 (-3000) 3000 := by
  obtain ⟨⟨a0, a1⟩, ⟨b0, b1⟩, hf, ht⟩ := hB
  intro k
  induction k with
  | zero => intro _; show IV (0 : Int32) (-3000) 3000; decide
  | succ k ih =>
    intro hk
    have i1 := ih (by omega)
    obtain ⟨f0, f1⟩ := hf k (by omega)
    rw [NTK_s]
    unfold nst
    by_cases q : frN F S k ≤ (NTK F S mi sl N k).2.2
    · rw [if_pos q]; show IV (0 : Int32) (-3000) 3000; decide
    · rw [if_neg q]
      rw [le_I] at q
      by_cases q2 : k + 1 < N
      · rw [if_pos q2]
        show IV (nchange F S mi sl N k (NTK F S mi sl N k).2.2 - nstart F S mi sl k (NTK F S mi sl N k).2.2 - F 1 - S (34 + (k + 1))) (-3000) 3000
        generalize (NTK F S mi sl N k).2.2 = ah at i1 q
        have hl : 0 ≤ (nlost ah).toInt ∧ (nlost ah).toInt < (frN F S k).toInt := by
          unfold nlost
          by_cases w : ah < 0
          · rw [if_pos w, zI]; omega
          · rw [if_neg w]; rw [lt_I, zI] at w; omega
        have e1 : (frN F S k - 1).toInt = (frN F S k).toInt - 1 := by rw [subI (by rw [oneI]; omega) (by rw [oneI]; omega), oneI]
        have hs : 0 ≤ (nstart F S mi sl k ah).toInt ∧ (nstart F S mi sl k ah).toInt < (frN F S k).toInt := by
          unfold nstart
          generalize bel F S mi (F (126 + k)) + sl = x
          by_cases w : frN F S k - 1 < x
          · rw [if_pos w]
            by_cases w2 : nlost ah < frN F S k - 1
            · rw [if_pos w2, e1]; omega
            · rw [if_neg w2]; exact hl
          · rw [if_neg w]
            rw [lt_I, e1] at w
            by_cases w2 : nlost ah < x
            · rw [if_pos w2]; rw [lt_I] at w2; omega
            · rw [if_neg w2]; exact hl
        have ea : (nstart F S mi sl k ah + F 0).toInt = (nstart F S mi sl k ah).toInt + (F 0).toInt := addI (by omega) (by omega)
        have hc : 0 ≤ (nchange F S mi sl N k ah).toInt ∧ (nchange F S mi sl N k ah).toInt ≤ 2000 := by
          unfold nchange
          rw [if_pos q2]
          by_cases w : frN F S k < nstart F S mi sl k ah + F 0
          · rw [if_pos w]; omega
          · rw [if_neg w]; rw [lt_I, ea] at w; rw [ea]; omega
        obtain ⟨t0, t1⟩ := ht (k + 1) (by omega)
        have s1 : (nchange F S mi sl N k ah - nstart F S mi sl k ah).toInt = (nchange F S mi sl N k ah).toInt - (nstart F S mi sl k ah).toInt := subI (by omega) (by omega)
        have s2 : (nchange F S mi sl N k ah - nstart F S mi sl k ah - F 1).toInt = (nchange F S mi sl N k ah).toInt - (nstart F S mi sl k ah).toInt - (F 1).toInt := by rw [subI (by omega) (by omega), s1]
        have s3 : (nchange F S mi sl N k ah - nstart F S mi sl k ah - F 1 - S (34 + (k + 1))).toInt = (nchange F S mi sl N k ah).toInt - (nstart F S mi sl k ah).toInt - (F 1).toInt - (S (34 + (k + 1))).toInt := by rw [subI (by omega) (by omega), s2]
        rw [IV, s3]
        omega
      · rw [if_neg q2]
        exact i1
theorem follows_m {f0 b0 m0 l0 k0 b2 k2 f2 l2 m2 : Nat → Int32} {m : Nat} {p1 p2 p3 p4 : Int32} (hm : m ≤ 100) (hp : p4 = 0 ∨ p3 = 0) (h : R_m_followsX (nI m) p1 p2 p3 p4 f0 b0 m0 l0 k0 b2 k2 f2 l2 m2) : b2 = upd b0 (m + 1) (p2 + mblack p3) ∧ k2 = upd k0 (m + 1) (mblack p3) ∧ f2 = upd f0 (m + 1) (nlost p3) ∧ l2 = upd l0 (m + 1) (nlost p3) ∧ m2 = upd m0 (m + 1) p1 := by
  unfold R_m_followsX at h
  obtain ⟨z1, hz1, h⟩ := h
  have e1 : z1.toNatClampNeg = m + 1 := by rw [hz1, nI_s1 (by omega)]; exact nI_c (by omega)
  rw [e1] at h
  have n0 : nlost 0 = 0 := by decide
  have k0' : mblack 0 = 0 := by decide
  rcases h with ⟨q, ⟨-, z10, hz10, r1, r2, r3, r4, r5⟩ | ⟨w, -⟩⟩ | ⟨q, ⟨q2, ⟨q3, z40, hz40, z42, hz42, r1, r2, r3, r4, r5⟩ | ⟨q3, z48, hz48, r1, r2, r3, r4, r5⟩⟩ | ⟨q2, z59, hz59, z61, hz61, r1, r2, r3, r4, r5⟩⟩
  · have p0 := hp.resolve_left q
    subst p0
    rw [n0, k0']
    exact ⟨by rw [r1, hz10], r2, r3, r4, r5⟩
  · exact absurd w q
  · have p0 : p3 = 0 := Int32.toInt_inj.mp (by rw [le_I, zI] at q2 q3; rw [zI]; omega)
    subst p0
    rw [n0, k0']
    have e : -(0 : Int32) = 0 := by decide
    exact ⟨by rw [r1, hz42, hz40, e], by rw [r2, hz40, e], r3, r4, r5⟩
  · rw [le_I, zI] at q3
    have eb : mblack p3 = 0 := by unfold mblack; rw [if_pos (by rw [lt_I, zI]; omega)]
    have el : nlost p3 = p3 := by unfold nlost; rw [if_neg (by rw [lt_I, zI]; omega)]
    rw [eb, el]
    exact ⟨by rw [r1, hz48], r2, r3, r4, r5⟩
  · rw [le_I, zI] at q2
    have eb : mblack p3 = -p3 := by unfold mblack; rw [if_neg (by rw [lt_I, zI]; omega)]
    have el : nlost p3 = 0 := by unfold nlost; rw [if_pos (by rw [lt_I, zI]; omega)]
    rw [eb, el]
    exact ⟨by rw [r1, hz61, hz59], by rw [r2, hz59], r3, r4, r5⟩
theorem frames_m {F S : Nat → Int32} {m : Nat} {r : Int32} (hm : m ≤ 100) (hr : 0 ≤ (F (126 + m)).toInt ∧ (F (126 + m)).toInt ≤ 8) : R_m_framesAtX (nI m) F S r ↔ r = frN F S m := by
  unfold R_m_framesAtX R_m_reelAtX
  obtain ⟨ρ, eρ, hρ⟩ := nI_oF hr.1
  simp only [exists_eq_left, ix_126 (show m ≤ 1000 by omega)]
  unfold frN
  rw [hρ, Int.toNat_natCast, eρ, ix_0 (show ρ ≤ 1000 by omega), Nat.zero_add]
theorem gone_m {F S fr : Nat → Int32} {m : Nat} {r : Int32} (hm : m ≤ 100) (hr : 0 ≤ (F (126 + m)).toInt ∧ (F (126 + m)).toInt ≤ 8) : R_m_isGoneX (nI m) F S fr r ↔ r = (if fr m < frN F S m then 0 else 1) := by
  unfold R_m_isGoneX
  simp only [exists_eq_left, nI_c (show m < 100000 by omega), frames_m hm hr]
  rw [goI, iteE]
/-- what stands in the reference's rows for the places below m, and for place m itself -/
def NM (F S : Nat → Int32) (mi : Nat) (sl : Int32) (N m : Nat) (be bl ch cf fr lo mo st : Nat → Int32) : Prop :=
  (∀ k : Nat, k < m → ch k = NR F S mi sl N k 7 ∧ cf k = NR F S mi sl N k 5 ∧ st k = NR F S mi sl N k 4 ∧ lo k = NR F S mi sl N k 0) ∧
  (∀ k : Nat, k ≤ m → k < N → be k = NR F S mi sl N k 6 ∧ bl k = NR F S mi sl N k 1 ∧ fr k = nlost (NTK F S mi sl N k).2.2 ∧ mo k = NR F S mi sl N k 8) ∧
  (m < N → lo m = nlost (NTK F S mi sl N m).2.2)
theorem gone_iff {a f : Int32} (hf : 1 ≤ f.toInt) : (nlost a < f) ↔ ¬ f ≤ a := by
  unfold nlost
  rw [le_I]
  by_cases q : a < 0
  · rw [if_pos q, lt_I, zI]; rw [lt_I, zI] at q; omega
  · rw [if_neg q, lt_I]; omega
/-- the next place -/
theorem NM_next {F S : Nat → Int32} {mi N m : Nat} {sl : Int32} {be bl fr lo mo be2 bl2 fr2 lo2 mo2 ch cf st : Nat → Int32} (hB : NB F S N) (hm : m + 1 < N) (hN : N ≤ 8)
    (h1 : ∀ k : Nat, k < m + 1 → ch k = NR F S mi sl N k 7 ∧ cf k = NR F S mi sl N k 5 ∧ st k = NR F S mi sl N k 4 ∧ lo k = NR F S mi sl N k 0)
    (h2 : ∀ k : Nat, k ≤ m → k < N → be k = NR F S mi sl N k 6 ∧ bl k = NR F S mi sl N k 1 ∧ fr k = nlost (NTK F S mi sl N k).2.2 ∧ mo k = NR F S mi sl N k 8)
    (e1 : be2 = upd be (m + 1) ((NTK F S mi sl N (m + 1)).1 + mblack (NTK F S mi sl N (m + 1)).2.2)) (e2 : bl2 = upd bl (m + 1) (mblack (NTK F S mi sl N (m + 1)).2.2)) (e3 : fr2 = upd fr (m + 1) (nlost (NTK F S mi sl N (m + 1)).2.2)) (e4 : lo2 = upd lo (m + 1) (nlost (NTK F S mi sl N (m + 1)).2.2)) (e5 : mo2 = upd mo (m + 1) (NTK F S mi sl N (m + 1)).2.1) : NM F S mi sl N (m + 1) be2 bl2 ch cf fr2 lo2 mo2 st := by
  have hb := NTK_b (mi := mi) (sl := sl) hB (m + 1) (by omega)
  have eb := nb_mb (a := (NTK F S mi sl N (m + 1)).2.2) (by rw [IV] at hb; omega)
  refine ⟨fun k hk => ?_, fun k hk hk2 => ?_, fun _ => by rw [e4, upd_at]⟩
  · rw [e4, upd_ne (by omega)]
    exact h1 k hk
  · by_cases e : k = m + 1
    · subst e
      rw [e1, e2, e3, e5, upd_at, upd_at, upd_at, upd_at]
      obtain ⟨f0, f1⟩ := hB.2.2.1 (m + 1) hk2
      refine ⟨?_, ?_, rfl, rfl⟩
      · show _ = (if frN F S (m + 1) ≤ (NTK F S mi sl N (m + 1)).2.2 then (NTK F S mi sl N (m + 1)).1 else (NTK F S mi sl N (m + 1)).1 + nblack (NTK F S mi sl N (m + 1)).2.2)
        by_cases q : frN F S (m + 1) ≤ (NTK F S mi sl N (m + 1)).2.2
        · rw [if_pos q, ← eb, nb_0 (by rw [le_I] at q; rw [lt_I, zI]; omega), Int32.add_zero]
        · rw [if_neg q, eb]
      · show _ = (if frN F S (m + 1) ≤ (NTK F S mi sl N (m + 1)).2.2 then 0 else nblack (NTK F S mi sl N (m + 1)).2.2)
        by_cases q : frN F S (m + 1) ≤ (NTK F S mi sl N (m + 1)).2.2
        · rw [if_pos q, ← eb, nb_0 (by rw [le_I] at q; rw [lt_I, zI]; omega)]
        · rw [if_neg q, eb]
    · rw [e1, e2, e3, e5, upd_ne e, upd_ne e, upd_ne e, upd_ne e]
      exact h2 k (by omega) hk2
theorem NM_more {F S : Nat → Int32} {mi N m : Nat} {sl : Int32} {be bl ch cf fr lo mo st ch2 cf2 st2 lo2 : Nat → Int32} (h : NM F S mi sl N m be bl ch cf fr lo mo st) (e1 : ch2 = upd ch m (NR F S mi sl N m 7)) (e2 : cf2 = upd cf m (NR F S mi sl N m 5)) (e3 : st2 = upd st m (NR F S mi sl N m 4)) (e4 : lo2 m = NR F S mi sl N m 0) (e5 : ∀ k : Nat, k < m → lo2 k = lo k) : ∀ k : Nat, k < m + 1 → ch2 k = NR F S mi sl N k 7 ∧ cf2 k = NR F S mi sl N k 5 ∧ st2 k = NR F S mi sl N k 4 ∧ lo2 k = NR F S mi sl N k 0 := by
  intro k hk
  by_cases e : k = m
  · subst e
    rw [e1, e2, e3, upd_at, upd_at, upd_at]
    exact ⟨rfl, rfl, rfl, e4⟩
  · rw [e1, e2, e3, upd_ne e, upd_ne e, upd_ne e, e5 k (by omega)]
    exact h.1 k (by omega)
