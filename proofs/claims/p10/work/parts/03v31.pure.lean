set_option maxRecDepth 100000
set_option maxHeartbeats 4000000
/-! relations as functions: choices and loops that count up -/
theorem goI {c P Q : Prop} [d : Decidable c] : ((c ∧ P) ∨ (¬ c ∧ Q)) ↔ (if c then P else Q) := by
  by_cases h : c
  · rw [if_pos h]; exact ⟨fun q => q.elim (fun z => z.2) (fun z => absurd h z.1), fun q => Or.inl ⟨h, q⟩⟩
  · rw [if_neg h]; exact ⟨fun q => q.elim (fun z => absurd z.1 h) (fun z => z.2), fun q => Or.inr ⟨h, q⟩⟩
theorem goN {c P Q : Prop} [d : Decidable c] : ((¬ c ∧ P) ∨ (c ∧ Q)) ↔ (if c then Q else P) := by
  by_cases h : c
  · rw [if_pos h]; exact ⟨fun q => q.elim (fun z => absurd h z.1) (fun z => z.2), fun q => Or.inr ⟨h, q⟩⟩
  · rw [if_neg h]; exact ⟨fun q => q.elim (fun z => z.2) (fun z => absurd z.1 h), fun q => Or.inl ⟨h, q⟩⟩
theorem iteE {α : Type} {c : Prop} [d : Decidable c] {r a b : α} : (if c then r = a else r = b) ↔ r = (if c then a else b) := by
  by_cases h : c
  · rw [if_pos h, if_pos h]
  · rw [if_neg h, if_neg h]
theorem nI_s {m : Nat} (h : m < 100000) : nI m + Int32.ofInt 1 = nI (m + 1) := Int32.toInt_inj.mp (by
  rw [ofI1, addI (by rw [nI_toInt (by omega), oneI]; omega) (by rw [nI_toInt (by omega), oneI]; omega), nI_toInt (by omega), nI_toInt (by omega), oneI]; omega)
theorem nI_s1 {m : Nat} (h : m < 100000) : nI m + 1 = nI (m + 1) := by rw [← ofI1]; exact nI_s h
theorem nI_gE {N m : Nat} (hN : N < 100000) (hm : m < 100000) : nI N ≤ nI m ↔ N ≤ m := by
  rw [le_I, nI_toInt (by omega), nI_toInt (by omega)]; omega
theorem nI_nge {N m : Nat} (hN : N < 100000) (h : m < N) : ¬ nI N ≤ nI m := by
  rw [nI_gE hN (by omega)]; omega
theorem nI_c {m : Nat} (h : m < 100000) : (nI m).toNatClampNeg = m := nI_clamp (by omega)
theorem nI_oF {x : Int32} (h : 0 ≤ x.toInt) : ∃ k : Nat, x = nI k ∧ x.toInt = k := ⟨x.toInt.toNat, (nI_back h).symm, by omega⟩
theorem nI_inj {a b : Nat} (ha : a < 100000) (hb : b < 100000) (h : nI a = nI b) : a = b := by
  have := congrArg Int32.toInt h
  rw [nI_toInt (by omega), nI_toInt (by omega)] at this
  omega
/-- a step for each number from m on -/
def fo {A : Type} (st : Nat → A → A) : Nat → Nat → A → A
  | _, 0, a => a
  | m, k + 1, a => fo st (m + 1) k (st m a)
theorem lp {A : Type} {L : Nat → A → Int32 → Prop} {κ : A → Prop} {st : Nat → A → A} {N : Nat} (h0 : ∀ a u, ¬ L 0 a u) (hE : ∀ n a, L (n + 1) a (nI N) ↔ κ a) (hS : ∀ n a m, m < N → (L (n + 1) a (nI m) ↔ L n (st m a) (nI (m + 1)))) : ∀ k m n a, m + k = N → (L n a (nI m) ↔ k < n ∧ κ (fo st m k a)) := by
  intro k
  induction k with
  | zero =>
    intro m n a hm
    obtain rfl : m = N := by omega
    cases n with
    | zero => exact ⟨fun h => absurd h (h0 _ _), fun h => absurd h.1 (Nat.lt_irrefl 0)⟩
    | succ n => exact (hE n a).trans ⟨fun h => ⟨Nat.succ_pos n, h⟩, fun h => h.2⟩
  | succ k ih =>
    intro m n a hm
    cases n with
    | zero => exact ⟨fun h => absurd h (h0 _ _), fun h => absurd h.1 (Nat.not_lt_zero _)⟩
    | succ n => exact (hS n a m (by omega)).trans ((ih (m + 1) n (st m a) (by omega)).trans ⟨fun h => ⟨Nat.succ_lt_succ h.1, h.2⟩, fun h => ⟨Nat.lt_of_succ_lt_succ h.1, h.2⟩⟩)
theorem lpE {A : Type} {L : Nat → A → Int32 → Prop} {κ : A → Prop} {st : Nat → A → A} {N : Nat} (h0 : ∀ a u, ¬ L 0 a u) (hE : ∀ n a, L (n + 1) a (nI N) ↔ κ a) (hS : ∀ n a m, m < N → (L (n + 1) a (nI m) ↔ L n (st m a) (nI (m + 1)))) (a : A) : (∃ n, L n a 0) ↔ κ (fo st 0 N a) := by
  have e := lp h0 hE hS N 0
  rw [nI_0] at e
  exact ⟨fun ⟨n, h⟩ => ((e n a (by omega)).mp h).2, fun h => ⟨N + 1, (e (N + 1) a (by omega)).mpr ⟨by omega, h⟩⟩⟩
/-- the first that is so -/
def ff (c : Nat → Prop) [DecidablePred c] (v : Nat → Int32) (d : Int32) : Nat → Nat → Int32
  | _, 0 => d
  | m, k + 1 => if c m then v m else ff c v d (m + 1) k
theorem lpF {L : Nat → Int32 → Prop} {c : Nat → Prop} [DecidablePred c] {v : Nat → Int32} {d r : Int32} {N : Nat} (h0 : ∀ u, ¬ L 0 u) (hE : ∀ n, L (n + 1) (nI N) ↔ r = d) (hS : ∀ n m, m < N → (L (n + 1) (nI m) ↔ if c m then r = v m else L n (nI (m + 1)))) : (∃ n, L n 0) ↔ r = ff c v d 0 N := by
  have key : ∀ k m, m + k = N → (∀ n, k < n → (L n (nI m) ↔ r = ff c v d m k)) ∧ (∀ n, L n (nI m) → r = ff c v d m k) := by
    intro k
    induction k with
    | zero =>
      intro m hm
      obtain rfl : m = N := by omega
      refine ⟨fun n hn => ?_, fun n h => ?_⟩
      · cases n with
        | zero => omega
        | succ n => exact hE n
      · cases n with
        | zero => exact absurd h (h0 _)
        | succ n => exact (hE n).mp h
    | succ k ih =>
      intro m hm
      obtain ⟨i1, i2⟩ := ih (m + 1) (by omega)
      show (∀ n, k + 1 < n → (L n (nI m) ↔ r = (if c m then v m else ff c v d (m + 1) k))) ∧ (∀ n, L n (nI m) → r = (if c m then v m else ff c v d (m + 1) k))
      refine ⟨fun n hn => ?_, fun n h => ?_⟩
      · cases n with
        | zero => omega
        | succ n =>
          rw [hS n m (by omega)]
          by_cases q : c m
          · rw [if_pos q, if_pos q]
          · rw [if_neg q, if_neg q]; exact i1 n (by omega)
      · cases n with
        | zero => exact absurd h (h0 _)
        | succ n =>
          rw [hS n m (by omega)] at h
          by_cases q : c m
          · rw [if_pos q] at h; rw [if_pos q]; exact h
          · rw [if_neg q] at h; rw [if_neg q]; exact i2 n h
  have e := key N 0 (by first | decide | omega)
  rw [nI_0] at e
  exact ⟨fun ⟨n, h⟩ => e.2 n h, fun h => ⟨N + 1, (e.1 (N + 1) (by omega)).mpr h⟩⟩
/-- a place of a table by whole numbers -/
theorem tbN {R V c : Int32} {f : Nat → Int32} {m j a b : Nat} (hR : R.toInt = a) (hV : V.toInt = b) (ha : a ≤ 1000) (hb : b ≤ 1000) (hc : c.toInt = j) (hm : m < a) (hj : j < b) : tbAt R V f (nI m) c = f (b * m + j) := by
  have e : (nI m).toInt = m := nI_toInt (by omega)
  rw [tbAt_in (by omega) (by omega) (by omega) (by omega), e, hV, hc]
  congr 1
  rw [Int.toNat_natCast, Int.toNat_natCast, Int.toNat_natCast, Nat.mul_comm]
theorem ixG {b w c : Int32} {B W C k : Nat} (hb : b.toInt = B) (hw : w.toInt = W) (hc : c.toInt = C) (hB : B ≤ 1000) (hW : W ≤ 100) (hC : C ≤ 1000) (hk : k ≤ 1000) : (b + w * nI k + c).toNatClampNeg = B + W * k + C := by
  have h1 : W * k ≤ 100 * 1000 := Nat.mul_le_mul hW hk
  have e0 : (nI k).toInt = k := nI_toInt (by omega)
  have hp : (W : Int) * k = ((W * k : Nat) : Int) := by rw [Int.natCast_mul]
  have e1 : (w * nI k).toInt = (W * k : Nat) := by rw [mulI (by rw [hw, e0, hp]; omega) (by rw [hw, e0, hp]; omega), hw, e0, hp]
  have e2 : (b + w * nI k).toInt = (B + W * k : Nat) := by rw [addI (by rw [hb, e1]; omega) (by rw [hb, e1]; omega), hb, e1]; omega
  have e3 : (b + w * nI k + c).toInt = (B + W * k + C : Nat) := by rw [addI (by rw [hc, e2]; omega) (by rw [hc, e2]; omega), hc, e2]; omega
  exact tnz e3
theorem ixH {b w : Int32} {B W k : Nat} (hb : b.toInt = B) (hw : w.toInt = W) (hB : B ≤ 1000) (hW : W ≤ 100) (hk : k ≤ 1000) : (b + w * nI k).toNatClampNeg = B + W * k := by
  have h := ixG (c := 0) (C := 0) hb hw (by decide) hB hW (by omega) hk
  rw [Int32.add_zero] at h
  exact h
theorem ixJ {b : Int32} {B k : Nat} (hb : b.toInt = B) (hB : B ≤ 1000) (hk : k ≤ 1000) : (b + nI k).toNatClampNeg = B + k := by
  have h := ixH (w := 1) (W := 1) hb (by decide) hB (by omega) hk
  rw [Int32.one_mul, Nat.one_mul] at h
  exact h
theorem ix_44_3_0 {k : Nat} (hk : k ≤ 1000) : ((44 : Int32) + ((3 : Int32) * nI k)).toNatClampNeg = 44 + 3 * k := ixH (by decide) (by decide) (by omega) (by omega) hk
theorem ix_44_3_2 {k : Nat} (hk : k ≤ 1000) : (((44 : Int32) + ((3 : Int32) * nI k)) + (2 : Int32)).toNatClampNeg = 44 + 3 * k + 2 := ixG (by decide) (by decide) (by decide) (by omega) (by omega) (by omega) hk
theorem ix_114_3_0 {k : Nat} (hk : k ≤ 1000) : ((114 : Int32) + ((3 : Int32) * nI k)).toNatClampNeg = 114 + 3 * k := ixH (by decide) (by decide) (by omega) (by omega) hk
theorem ix_114_3_1 {k : Nat} (hk : k ≤ 1000) : (((114 : Int32) + ((3 : Int32) * nI k)) + (1 : Int32)).toNatClampNeg = 114 + 3 * k + 1 := ixG (by decide) (by decide) (by decide) (by omega) (by omega) (by omega) hk
theorem ix_114_3_2 {k : Nat} (hk : k ≤ 1000) : (((114 : Int32) + ((3 : Int32) * nI k)) + (2 : Int32)).toNatClampNeg = 114 + 3 * k + 2 := ixG (by decide) (by decide) (by decide) (by omega) (by omega) (by omega) hk
theorem ix_0 {k : Nat} (hk : k ≤ 1000) : ((0 : Int32) + nI k).toNatClampNeg = 0 + k := ixJ (by decide) (by omega) hk
theorem ix_8 {k : Nat} (hk : k ≤ 1000) : ((8 : Int32) + nI k).toNatClampNeg = 8 + k := ixJ (by decide) (by omega) hk
theorem ix_16 {k : Nat} (hk : k ≤ 1000) : ((16 : Int32) + nI k).toNatClampNeg = 16 + k := ixJ (by decide) (by omega) hk
theorem ix_126 {k : Nat} (hk : k ≤ 1000) : ((126 : Int32) + nI k).toNatClampNeg = 126 + k := ixJ (by decide) (by omega) hk
theorem tc_0 : (0 : Int32).toNatClampNeg = 0 := by decide
theorem tc_1 : (1 : Int32).toNatClampNeg = 1 := by decide
theorem tc_8 : (8 : Int32).toNatClampNeg = 8 := by decide
theorem tc_11 : (11 : Int32).toNatClampNeg = 11 := by decide
theorem tc_12 : (12 : Int32).toNatClampNeg = 12 := by decide
theorem ite01 {c : Prop} [d : Decidable c] : ((if c then (0 : Int32) else 1) = 0) ↔ c := by
  by_cases h : c
  · rw [if_pos h]; exact ⟨fun _ => h, fun _ => rfl⟩
  · rw [if_neg h]; exact ⟨fun q => absurd q (by decide), fun q => absurd q h⟩
theorem lr_mark {p q r : Int32} {F S : Nat → Int32} {N : Nat} (hN : N ≤ 12) (hF : F 8 = nI N) : R_m_markOfX p q F S r ↔ r = ff (fun k => F (44 + 3 * k) = p ∧ F (44 + 3 * k + 2) = q) (fun k => S (16 + k)) (-2) 0 N := by
  unfold R_m_markOfX
  refine lpF (L := fun t u => R_m_markOfX_L0 p q F S r (r = -2) t u) (fun u h => h) (fun t => ?_) (fun t m hm => ?_)
  · show R_m_markOfX_L0 p q F S r (r = -2) (t + 1) (nI N) ↔ r = -2
    rw [R_m_markOfX_L0]
    simp only [exists_eq_left, tc_8, hF]
    rw [goI, if_pos (Int32.le_refl _)]
  · have hm9 : m ≤ 1000 := by omega
    have hm8 : m < 100000 := by omega
    show R_m_markOfX_L0 p q F S r (r = -2) (t + 1) (nI m) ↔ (if F (44 + 3 * m) = p ∧ F (44 + 3 * m + 2) = q then r = S (16 + m) else R_m_markOfX_L0 p q F S r (r = -2) t (nI (m + 1)))
    rw [R_m_markOfX_L0]
    simp only [exists_eq_left, tc_8, hF]
    rw [goI, if_neg (nI_nge (by omega) hm)]
    simp only [exists_eq_left, exists_eq_left', ne_eq, goN, ofI1, nI_s1 hm8, ix_44_3_0 hm9, ix_44_3_2 hm9, ix_16 hm9]
    by_cases q0 : F (44 + 3 * m) = p <;> by_cases q1 : F (44 + 3 * m + 2) = q <;> simp only [q0, q1, if_true, if_false, ↓reduceIte, not_true_eq_false, not_false_eq_true, and_true, and_false, true_and, false_and, Int32.add_zero, Int32.sub_zero]
