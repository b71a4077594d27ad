set_option maxRecDepth 100000
set_option maxHeartbeats 4000000
/-! relations as functions: choices and loops that count up -/
theorem goI {c P Q : Prop} [d : Decidable c] : ((c ∧ P) ∨ (¬ c ∧ Q)) ↔ (if c then P else Q) := by
  by_cases h : c
  · rw [if_pos h]; exact ⟨fun q => q.elim (fun z => z.2) (fun z => absurd h z.1), fun q => Or.inl ⟨h, q⟩⟩
  · rw [if_neg h]; exact ⟨fun q => q.elim (fun z => absurd z.1 h) (fun z => z.2), fun q => Or.inr ⟨h, q⟩⟩
theorem goN {c P Q : Prop} [d : Decidable c] : ((¬ c ∧ P) ∨ (c ∧ Q)) ↔ (if c then Q else P) := by
  by_cases h : c
  · rw [if_pos h]; exact ⟨fun q => q.elim (fun z => absurd h z.1) (fun z => z.2), fun q => Or.inr ⟨h, q⟩⟩
  · rw [if_neg h]; exact ⟨fun q => q.elim (fun z => z.2) (fun z => absurd z.1 h), fun q => Or.inl ⟨h, q⟩⟩
theorem iteE {α : Type} {c : Prop} [d : Decidable c] {r a b : α} : (if c then r = a else r = b) ↔ r = (if c then a else b) := by
  by_cases h : c
  · rw [if_pos h, if_pos h]
  · rw [if_neg h, if_neg h]
theorem iteA {c : Prop} [d : Decidable c] {A B C D : Prop} : (if c then A ∧ B else C ∧ D) ↔ (if c then A else C) ∧ (if c then B else D) := by
  by_cases h : c
  · rw [if_pos h, if_pos h, if_pos h]
  · rw [if_neg h, if_neg h, if_neg h]
theorem nI_s {m : Nat} (h : m < 100000) : nI m + Int32.ofInt 1 = nI (m + 1) := Int32.toInt_inj.mp (by
  rw [ofI1, addI (by rw [nI_toInt (by omega), oneI]; omega) (by rw [nI_toInt (by omega), oneI]; omega), nI_toInt (by omega), nI_toInt (by omega), oneI]; omega)
theorem nI_s1 {m : Nat} (h : m < 100000) : nI m + 1 = nI (m + 1) := by rw [← ofI1]; exact nI_s h
theorem nI_gE {N m : Nat} (hN : N < 100000) (hm : m < 100000) : nI N ≤ nI m ↔ N ≤ m := by
  rw [le_I, nI_toInt (by omega), nI_toInt (by omega)]; omega
theorem nI_nge {N m : Nat} (hN : N < 100000) (h : m < N) : ¬ nI N ≤ nI m := by
  rw [nI_gE hN (by omega)]; omega
theorem nI_c {m : Nat} (h : m < 100000) : (nI m).toNatClampNeg = m := nI_clamp (by omega)
theorem nI_oF {x : Int32} (h : 0 ≤ x.toInt) : ∃ k : Nat, x = nI k ∧ x.toInt = k := ⟨x.toInt.toNat, (nI_back h).symm, by omega⟩
theorem nI_inj {a b : Nat} (ha : a < 100000) (hb : b < 100000) (h : nI a = nI b) : a = b := by
  have := congrArg Int32.toInt h
  rw [nI_toInt (by omega), nI_toInt (by omega)] at this
  omega
/-- a step for each number from m on -/
def fo {A : Type} (st : Nat → A → A) : Nat → Nat → A → A
  | _, 0, a => a
  | m, k + 1, a => fo st (m + 1) k (st m a)
theorem lp {A : Type} {L : Nat → A → Int32 → Prop} {κ : A → Prop} {st : Nat → A → A} {N : Nat} (h0 : ∀ a u, ¬ L 0 a u) (hE : ∀ n a, L (n + 1) a (nI N) ↔ κ a) (hS : ∀ n a m, m < N → (L (n + 1) a (nI m) ↔ L n (st m a) (nI (m + 1)))) : ∀ k m n a, m + k = N → (L n a (nI m) ↔ k < n ∧ κ (fo st m k a)) := by
  intro k
  induction k with
  | zero =>
    intro m n a hm
    obtain rfl : m = N := by omega
    cases n with
    | zero => exact ⟨fun h => absurd h (h0 _ _), fun h => absurd h.1 (Nat.lt_irrefl 0)⟩
    | succ n => exact (hE n a).trans ⟨fun h => ⟨Nat.succ_pos n, h⟩, fun h => h.2⟩
  | succ k ih =>
    intro m n a hm
    cases n with
    | zero => exact ⟨fun h => absurd h (h0 _ _), fun h => absurd h.1 (Nat.not_lt_zero _)⟩
    | succ n => exact (hS n a m (by omega)).trans ((ih (m + 1) n (st m a) (by omega)).trans ⟨fun h => ⟨Nat.succ_lt_succ h.1, h.2⟩, fun h => ⟨Nat.lt_of_succ_lt_succ h.1, h.2⟩⟩)
theorem lpE {A : Type} {L : Nat → A → Int32 → Prop} {κ : A → Prop} {st : Nat → A → A} {N : Nat} (h0 : ∀ a u, ¬ L 0 a u) (hE : ∀ n a, L (n + 1) a (nI N) ↔ κ a) (hS : ∀ n a m, m < N → (L (n + 1) a (nI m) ↔ L n (st m a) (nI (m + 1)))) (a : A) : (∃ n, L n a 0) ↔ κ (fo st 0 N a) := by
  have e := lp h0 hE hS N 0
  rw [nI_0] at e
  exact ⟨fun ⟨n, h⟩ => ((e n a (by omega)).mp h).2, fun h => ⟨N + 1, (e (N + 1) a (by omega)).mpr ⟨by omega, h⟩⟩⟩
theorem fo_congr {A : Type} {f g : Nat → A → A} : ∀ (k m : Nat) (a : A), (∀ j : Nat, m ≤ j → j < m + k → ∀ a : A, f j a = g j a) → fo f m k a = fo g m k a
  | 0, _, _, _ => rfl
  | k + 1, m, a, h => by
    show fo f (m + 1) k (f m a) = fo g (m + 1) k (g m a)
    rw [h m (by omega) (by omega) a]
    exact fo_congr k (m + 1) _ (fun j h1 h2 => h j (by omega) (by omega))
theorem fo_rel {A B : Type} {R : A → B → Prop} {f : Nat → A → A} {g : Nat → B → B} : ∀ (k m : Nat) (a : A) (b : B), R a b → (∀ j : Nat, m ≤ j → j < m + k → ∀ (a : A) (b : B), R a b → R (f j a) (g j b)) → R (fo f m k a) (fo g m k b)
  | 0, _, _, _, h, _ => h
  | k + 1, m, a, b, h, hs => fo_rel k (m + 1) (f m a) (g m b) (hs m (by omega) (by omega) a b h) (fun j h1 h2 => hs j (by omega) (by omega))
theorem fo_inv {A : Type} {P : Nat → A → Prop} {f : Nat → A → A} : ∀ (k m : Nat) (a : A), P m a → (∀ j : Nat, m ≤ j → j < m + k → ∀ a : A, P j a → P (j + 1) (f j a)) → P (m + k) (fo f m k a)
  | 0, _, _, h, _ => h
  | k + 1, m, a, h, hs => by
    have q := fo_inv k (m + 1) (f m a) (hs m (by omega) (by omega) a h) (fun j h1 h2 => hs j (by omega) (by omega))
    rw [show m + 1 + k = m + (k + 1) by omega] at q
    exact q
/-- sums -/
theorem fo_sub {g h : Nat → Int32} : ∀ (k m : Nat) (x y : Int32), fo (fun j a => a + g j) m k x - fo (fun j a => a + h j) m k y = fo (fun j a => a + (g j - h j)) m k (x - y)
  | 0, _, _, _ => rfl
  | k + 1, m, x, y => by
    show fo (fun j a => a + g j) (m + 1) k (x + g m) - fo (fun j a => a + h j) (m + 1) k (y + h m) = fo (fun j a => a + (g j - h j)) (m + 1) k (x - y + (g m - h m))
    rw [fo_sub k (m + 1)]
    congr 1
    rw [Int32.sub_eq_add_neg, Int32.neg_add, Int32.sub_eq_add_neg, Int32.sub_eq_add_neg, Int32.sub_eq_add_neg]
    ac_rfl
theorem fo_from {g : Nat → Int32} : ∀ (k m : Nat) (x : Int32), fo (fun j a => a + g j) m k x = x + fo (fun j a => a + g j) m k 0
  | 0, _, x => by show x = x + 0; rw [Int32.add_zero]
  | k + 1, m, x => by
    show fo (fun j a => a + g j) (m + 1) k (x + g m) = x + fo (fun j a => a + g j) (m + 1) k (0 + g m)
    rw [fo_from k (m + 1) (x + g m), fo_from k (m + 1) (0 + g m), Int32.zero_add, Int32.add_assoc]
theorem fo_fromS {g : Nat → Int32} : ∀ (k m : Nat) (x : Int32), fo (fun j a => a - g j) m k x = x - fo (fun j a => a + g j) m k 0
  | 0, _, x => by show x = x - 0; rw [Int32.sub_zero]
  | k + 1, m, x => by
    show fo (fun j a => a - g j) (m + 1) k (x - g m) = x - fo (fun j a => a + g j) (m + 1) k (0 + g m)
    rw [fo_fromS k (m + 1) (x - g m), fo_from k (m + 1) (0 + g m), Int32.zero_add, Int32.sub_sub]
/-- the first that is so -/
def ff (c : Nat → Prop) [DecidablePred c] (v : Nat → Int32) (d : Int32) : Nat → Nat → Int32
  | _, 0 => d
  | m, k + 1 => if c m then v m else ff c v d (m + 1) k
theorem lpF {L : Nat → Int32 → Prop} {c : Nat → Prop} [DecidablePred c] {v : Nat → Int32} {d r : Int32} {N : Nat} (h0 : ∀ u, ¬ L 0 u) (hE : ∀ n, L (n + 1) (nI N) ↔ r = d) (hS : ∀ n m, m < N → (L (n + 1) (nI m) ↔ if c m then r = v m else L n (nI (m + 1)))) : (∃ n, L n 0) ↔ r = ff c v d 0 N := by
  have key : ∀ k m, m + k = N → (∀ n, k < n → (L n (nI m) ↔ r = ff c v d m k)) ∧ (∀ n, L n (nI m) → r = ff c v d m k) := by
    intro k
    induction k with
    | zero =>
      intro m hm
      obtain rfl : m = N := by omega
      refine ⟨fun n hn => ?_, fun n h => ?_⟩
      · cases n with
        | zero => omega
        | succ n => exact hE n
      · cases n with
        | zero => exact absurd h (h0 _)
        | succ n => exact (hE n).mp h
    | succ k ih =>
      intro m hm
      obtain ⟨i1, i2⟩ := ih (m + 1) (by omega)
      show (∀ n, k + 1 < n → (L n (nI m) ↔ r = (if c m then v m else ff c v d (m + 1) k))) ∧ (∀ n, L n (nI m) → r = (if c m then v m else ff c v d (m + 1) k))
      refine ⟨fun n hn => ?_, fun n h => ?_⟩
      · cases n with
        | zero => omega
        | succ n =>
          rw [hS n m (by omega)]
          by_cases q : c m
          · rw [if_pos q, if_pos q]
          · rw [if_neg q, if_neg q]; exact i1 n (by omega)
      · cases n with
        | zero => exact absurd h (h0 _)
        | succ n =>
          rw [hS n m (by omega)] at h
          by_cases q : c m
          · rw [if_pos q] at h; rw [if_pos q]; exact h
          · rw [if_neg q] at h; rw [if_neg q]; exact i2 n h
  have e := key N 0 (by omega)
  rw [nI_0] at e
  exact ⟨fun ⟨n, h⟩ => e.2 n h, fun h => ⟨N + 1, (e.1 (N + 1) (by omega)).mpr h⟩⟩
theorem ff_congr {c c' : Nat → Prop} [DecidablePred c] [DecidablePred c'] {v v' : Nat → Int32} {d : Int32} : ∀ (k m : Nat), (∀ j : Nat, m ≤ j → j < m + k → (c j ↔ c' j) ∧ v j = v' j) → ff c v d m k = ff c' v' d m k
  | 0, _, _ => rfl
  | k + 1, m, h => by
    show (if c m then v m else ff c v d (m + 1) k) = (if c' m then v' m else ff c' v' d (m + 1) k)
    obtain ⟨h1, h2⟩ := h m (by omega) (by omega)
    have h3 := ff_congr (d := d) k (m + 1) (fun j a b => h j (by omega) (by omega))
    by_cases q : c m
    · rw [if_pos q, if_pos (h1.mp q), h2]
    · rw [if_neg q, if_neg (fun w => q (h1.mpr w)), h3]
/-- a place of a table by whole numbers -/
theorem tbN {R V c : Int32} {f : Nat → Int32} {m j a b : Nat} (hR : R.toInt = a) (hV : V.toInt = b) (ha : a ≤ 1000) (hb : b ≤ 1000) (hc : c.toInt = j) (hm : m < a) (hj : j < b) : tbAt R V f (nI m) c = f (b * m + j) := by
  have e : (nI m).toInt = m := nI_toInt (by omega)
  rw [tbAt_in (by omega) (by omega) (by omega) (by omega), e, hV, hc]
  congr 1
  rw [Int.toNat_natCast, Int.toNat_natCast, Int.toNat_natCast, Nat.mul_comm]
theorem tbO {R V c : Int32} {f : Nat → Int32} {x : Int32} (h : ¬ (0 ≤ x.toInt ∧ x.toInt < R.toInt)) : tbAt R V f x c = 0 := by
  unfold tbAt
  rw [if_pos]
  rw [lt_I, le_I, zI]
  omega
theorem tf (c : Prop) [d : Decidable c] : c = True ∨ c = False := by
  by_cases q : c
  · exact Or.inl (eq_true q)
  · exact Or.inr (eq_false q)

theorem ixG {b w c : Int32} {B W C k : Nat} (hb : b.toInt = B) (hw : w.toInt = W) (hc : c.toInt = C) (hB : B ≤ 1000) (hW : W ≤ 100) (hC : C ≤ 1000) (hk : k ≤ 1000) : (b + w * nI k + c).toNatClampNeg = B + W * k + C := by
  have h1 : W * k ≤ 100 * 1000 := Nat.mul_le_mul hW hk
  have e0 : (nI k).toInt = k := nI_toInt (by omega)
  have hp : (W : Int) * k = ((W * k : Nat) : Int) := by rw [Int.natCast_mul]
  have e1 : (w * nI k).toInt = (W * k : Nat) := by rw [mulI (by rw [hw, e0, hp]; omega) (by rw [hw, e0, hp]; omega), hw, e0, hp]
  have e2 : (b + w * nI k).toInt = (B + W * k : Nat) := by rw [addI (by rw [hb, e1]; omega) (by rw [hb, e1]; omega), hb, e1]; omega
  have e3 : (b + w * nI k + c).toInt = (B + W * k + C : Nat) := by rw [addI (by rw [hc, e2]; omega) (by rw [hc, e2]; omega), hc, e2]; omega
  exact tnz e3
theorem ixH {b w : Int32} {B W k : Nat} (hb : b.toInt = B) (hw : w.toInt = W) (hB : B ≤ 1000) (hW : W ≤ 100) (hk : k ≤ 1000) : (b + w * nI k).toNatClampNeg = B + W * k := by
  have h := ixG (c := 0) (C := 0) hb hw (by decide) hB hW (by omega) hk
  rw [Int32.add_zero] at h
  exact h
theorem ixJ {b : Int32} {B k : Nat} (hb : b.toInt = B) (hB : B ≤ 1000) (hk : k ≤ 1000) : (b + nI k).toNatClampNeg = B + k := by
  have h := ixH (w := 1) (W := 1) hb (by decide) hB (by omega) hk
  rw [Int32.one_mul, Nat.one_mul] at h
  exact h
theorem ix_16_3_0 {k : Nat} (hk : k ≤ 1000) : ((16 : Int32) + ((3 : Int32) * nI k)).toNatClampNeg = 16 + 3 * k := ixH (by decide) (by decide) (by omega) (by omega) hk
theorem ix_16_3_1 {k : Nat} (hk : k ≤ 1000) : (((16 : Int32) + ((3 : Int32) * nI k)) + (1 : Int32)).toNatClampNeg = 16 + 3 * k + 1 := ixG (by decide) (by decide) (by decide) (by omega) (by omega) (by omega) hk
theorem ix_16_3_2 {k : Nat} (hk : k ≤ 1000) : (((16 : Int32) + ((3 : Int32) * nI k)) + (2 : Int32)).toNatClampNeg = 16 + 3 * k + 2 := ixG (by decide) (by decide) (by decide) (by omega) (by omega) (by omega) hk
theorem ix_44_3_0 {k : Nat} (hk : k ≤ 1000) : ((44 : Int32) + ((3 : Int32) * nI k)).toNatClampNeg = 44 + 3 * k := ixH (by decide) (by decide) (by omega) (by omega) hk
theorem ix_44_3_1 {k : Nat} (hk : k ≤ 1000) : (((44 : Int32) + ((3 : Int32) * nI k)) + (1 : Int32)).toNatClampNeg = 44 + 3 * k + 1 := ixG (by decide) (by decide) (by decide) (by omega) (by omega) (by omega) hk
theorem ix_44_3_2 {k : Nat} (hk : k ≤ 1000) : (((44 : Int32) + ((3 : Int32) * nI k)) + (2 : Int32)).toNatClampNeg = 44 + 3 * k + 2 := ixG (by decide) (by decide) (by decide) (by omega) (by omega) (by omega) hk
theorem ix_80_2_0 {k : Nat} (hk : k ≤ 1000) : ((80 : Int32) + ((2 : Int32) * nI k)).toNatClampNeg = 80 + 2 * k := ixH (by decide) (by decide) (by omega) (by omega) hk
theorem ix_80_2_1 {k : Nat} (hk : k ≤ 1000) : (((80 : Int32) + ((2 : Int32) * nI k)) + (1 : Int32)).toNatClampNeg = 80 + 2 * k + 1 := ixG (by decide) (by decide) (by decide) (by omega) (by omega) (by omega) hk
theorem ix_96_3_0 {k : Nat} (hk : k ≤ 1000) : ((96 : Int32) + ((3 : Int32) * nI k)).toNatClampNeg = 96 + 3 * k := ixH (by decide) (by decide) (by omega) (by omega) hk
theorem ix_96_3_1 {k : Nat} (hk : k ≤ 1000) : (((96 : Int32) + ((3 : Int32) * nI k)) + (1 : Int32)).toNatClampNeg = 96 + 3 * k + 1 := ixG (by decide) (by decide) (by decide) (by omega) (by omega) (by omega) hk
theorem ix_96_3_2 {k : Nat} (hk : k ≤ 1000) : (((96 : Int32) + ((3 : Int32) * nI k)) + (2 : Int32)).toNatClampNeg = 96 + 3 * k + 2 := ixG (by decide) (by decide) (by decide) (by omega) (by omega) (by omega) hk
theorem ix_114_3_0 {k : Nat} (hk : k ≤ 1000) : ((114 : Int32) + ((3 : Int32) * nI k)).toNatClampNeg = 114 + 3 * k := ixH (by decide) (by decide) (by omega) (by omega) hk
theorem ix_114_3_1 {k : Nat} (hk : k ≤ 1000) : (((114 : Int32) + ((3 : Int32) * nI k)) + (1 : Int32)).toNatClampNeg = 114 + 3 * k + 1 := ixG (by decide) (by decide) (by decide) (by omega) (by omega) (by omega) hk
theorem ix_114_3_2 {k : Nat} (hk : k ≤ 1000) : (((114 : Int32) + ((3 : Int32) * nI k)) + (2 : Int32)).toNatClampNeg = 114 + 3 * k + 2 := ixG (by decide) (by decide) (by decide) (by omega) (by omega) (by omega) hk
theorem ix_137_3_0 {k : Nat} (hk : k ≤ 1000) : ((137 : Int32) + ((3 : Int32) * nI k)).toNatClampNeg = 137 + 3 * k := ixH (by decide) (by decide) (by omega) (by omega) hk
theorem ix_137_3_1 {k : Nat} (hk : k ≤ 1000) : (((137 : Int32) + ((3 : Int32) * nI k)) + (1 : Int32)).toNatClampNeg = 137 + 3 * k + 1 := ixG (by decide) (by decide) (by decide) (by omega) (by omega) (by omega) hk
theorem ix_137_3_2 {k : Nat} (hk : k ≤ 1000) : (((137 : Int32) + ((3 : Int32) * nI k)) + (2 : Int32)).toNatClampNeg = 137 + 3 * k + 2 := ixG (by decide) (by decide) (by decide) (by omega) (by omega) (by omega) hk
theorem ix_155_2_0 {k : Nat} (hk : k ≤ 1000) : ((155 : Int32) + ((2 : Int32) * nI k)).toNatClampNeg = 155 + 2 * k := ixH (by decide) (by decide) (by omega) (by omega) hk
theorem ix_155_2_1 {k : Nat} (hk : k ≤ 1000) : (((155 : Int32) + ((2 : Int32) * nI k)) + (1 : Int32)).toNatClampNeg = 155 + 2 * k + 1 := ixG (by decide) (by decide) (by decide) (by omega) (by omega) (by omega) hk
theorem ix_0 {k : Nat} (hk : k ≤ 1000) : ((0 : Int32) + nI k).toNatClampNeg = 0 + k := ixJ (by decide) (by omega) hk
theorem ix_8 {k : Nat} (hk : k ≤ 1000) : ((8 : Int32) + nI k).toNatClampNeg = 8 + k := ixJ (by decide) (by omega) hk
theorem ix_16 {k : Nat} (hk : k ≤ 1000) : ((16 : Int32) + nI k).toNatClampNeg = 16 + k := ixJ (by decide) (by omega) hk
theorem ix_28 {k : Nat} (hk : k ≤ 1000) : ((28 : Int32) + nI k).toNatClampNeg = 28 + k := ixJ (by decide) (by omega) hk
theorem ix_34 {k : Nat} (hk : k ≤ 1000) : ((34 : Int32) + nI k).toNatClampNeg = 34 + k := ixJ (by decide) (by omega) hk
theorem ix_40 {k : Nat} (hk : k ≤ 1000) : ((40 : Int32) + nI k).toNatClampNeg = 40 + k := ixJ (by decide) (by omega) hk
theorem ix_126 {k : Nat} (hk : k ≤ 1000) : ((126 : Int32) + nI k).toNatClampNeg = 126 + k := ixJ (by decide) (by omega) hk
theorem tc_0 : (0 : Int32).toNatClampNeg = 0 := by decide
theorem tc_1 : (1 : Int32).toNatClampNeg = 1 := by decide
theorem tc_2 : (2 : Int32).toNatClampNeg = 2 := by decide
theorem tc_3 : (3 : Int32).toNatClampNeg = 3 := by decide
theorem tc_4 : (4 : Int32).toNatClampNeg = 4 := by decide
theorem tc_5 : (5 : Int32).toNatClampNeg = 5 := by decide
theorem tc_6 : (6 : Int32).toNatClampNeg = 6 := by decide
theorem tc_7 : (7 : Int32).toNatClampNeg = 7 := by decide
theorem tc_8 : (8 : Int32).toNatClampNeg = 8 := by decide
theorem tc_9 : (9 : Int32).toNatClampNeg = 9 := by decide
theorem tc_10 : (10 : Int32).toNatClampNeg = 10 := by decide
theorem tc_11 : (11 : Int32).toNatClampNeg = 11 := by decide
theorem tc_12 : (12 : Int32).toNatClampNeg = 12 := by decide
theorem tc_13 : (13 : Int32).toNatClampNeg = 13 := by decide
theorem tc_14 : (14 : Int32).toNatClampNeg = 14 := by decide
theorem tc_42 : (42 : Int32).toNatClampNeg = 42 := by decide
theorem tc_43 : (43 : Int32).toNatClampNeg = 43 := by decide
theorem tc_134 : (134 : Int32).toNatClampNeg = 134 := by decide
theorem tc_135 : (135 : Int32).toNatClampNeg = 135 := by decide
theorem tc_136 : (136 : Int32).toNatClampNeg = 136 := by decide
theorem ite01 {c : Prop} [d : Decidable c] : ((if c then (0 : Int32) else 1) = 0) ↔ c := by
  by_cases h : c
  · rw [if_pos h]; exact ⟨fun _ => h, fun _ => rfl⟩
  · rw [if_neg h]; exact ⟨fun q => absurd q (by decide), fun q => absurd q h⟩
theorem ite10 {c : Prop} [d : Decidable c] : ((if c then (1 : Int32) else 0) = 0) ↔ ¬ c := by
  by_cases h : c
  · rw [if_pos h]; exact ⟨fun q => absurd q (by decide), fun q => absurd h q⟩
  · rw [if_neg h]; exact ⟨fun _ => h, fun _ => rfl⟩
theorem bitO {x : Int32} : (x &&& 1 = 1) ↔ ¬ (x &&& 1 = 0) := by
  have h : IV (x &&& 1) 0 1 := bit01
  rw [IV] at h
  constructor
  · intro q w; rw [q] at w; exact absurd w (by decide)
  · intro q
    have : (x &&& 1).toInt ≠ 0 := fun v => q (Int32.toInt_inj.mp (by rw [v, zI]))
    exact Int32.toInt_inj.mp (by rw [oneI]; omega)
/-- bit k of a set isn't there -/
abbrev Bt (x : Int32) (k : Nat) : Prop := (x >>> (nI k &&& 31)) &&& 1 = 0
theorem isWk {md r : Int32} {m N : Nat} (hm : m < N) (hN : N ≤ 1000) : R_s_isWeakX (nI m) md (nI N) r ↔ r = (if Bt md m then 1 else 0) := by
  have h0 : ¬ (nI m < 0 ∨ nI N ≤ nI m) := by
    rw [lt_I, le_I, nI_toInt (by omega), nI_toInt (by omega), zI]; omega
  unfold R_s_isWeakX
  simp only [exists_eq_left, if_neg h0, ne_eq]
  rw [goI, if_neg (by decide), goN, iteE]
theorem isMd {S : Nat → Int32} {r : Int32} {m : Nat} : R_m_isMendedX (nI m) S r ↔ r = (if Bt (S 43) m then 0 else 1) := by
  unfold R_m_isMendedX R_m_hasBitX
  simp only [exists_eq_left, tc_43, ne_eq, goN, iteE]
  by_cases q : Bt (S 43) m
  · rw [if_pos q, if_neg (fun w => (bitO.mp w) q)]
  · rw [if_neg q, if_pos (bitO.mpr q)]
theorem hm_12_3 {p : Int32} {f : Nat → Int32} {N : Nat} {κ : Int32 → Prop} {x : Int32} (hN : N ≤ 12) : (∃ t : Nat, R_t_howMany12_3X_L0 0 p (nI N) f κ t x 0) ↔ κ (fo (fun k a => a + (if f (3 * k) = p then 1 else 0)) 0 N x) := by
  refine lpE (L := fun t a u => R_t_howMany12_3X_L0 0 p (nI N) f κ t a u) (fun a u h => h) (fun t a => ?_) (fun t a m hm => ?_) x
  · show R_t_howMany12_3X_L0 0 p (nI N) f κ (t + 1) a (nI N) ↔ κ a
    rw [R_t_howMany12_3X_L0]
    simp only [exists_eq_left]
    rw [goI, if_pos (Int32.le_refl _)]
  · show R_t_howMany12_3X_L0 0 p (nI N) f κ (t + 1) a (nI m) ↔ R_t_howMany12_3X_L0 0 p (nI N) f κ t (a + (if f (3 * m) = p then 1 else 0)) (nI (m + 1))
    have hm9 : m ≤ 1000 := by omega
    have hm8 : m < 100000 := by omega
    rw [R_t_howMany12_3X_L0]
    simp only [exists_eq_left, exists_eq_left']
    rw [goI, if_neg (nI_nge (by omega) hm)]
    simp only [exists_eq_left, exists_eq_left', ne_eq, goN, goI, ofI1, nI_s1 hm8, ite01, ite10, Int32.add_zero, Int32.sub_zero]
    simp only [tbN (R := 12) (V := 3) (c := 0) (f := f) (a := 12) (b := 3) (j := 0) (m := m) (by decide) (by decide) (by omega) (by omega) (by decide) (by omega) (by omega), Nat.add_zero]
    by_cases q0 : f (3 * m) = p <;> simp only [q0, if_true, if_false, ↓reduceIte, not_true_eq_false, not_false_eq_true, and_true, and_false, true_and, false_and, Int32.add_zero, Int32.sub_zero]
theorem hm_8_2 {p : Int32} {f : Nat → Int32} {N : Nat} {κ : Int32 → Prop} {x : Int32} (hN : N ≤ 8) : (∃ t : Nat, R_t_howMany8_2X_L0 0 p (nI N) f κ t x 0) ↔ κ (fo (fun k a => a + (if f (2 * k) = p then 1 else 0)) 0 N x) := by
  refine lpE (L := fun t a u => R_t_howMany8_2X_L0 0 p (nI N) f κ t a u) (fun a u h => h) (fun t a => ?_) (fun t a m hm => ?_) x
  · show R_t_howMany8_2X_L0 0 p (nI N) f κ (t + 1) a (nI N) ↔ κ a
    rw [R_t_howMany8_2X_L0]
    simp only [exists_eq_left]
    rw [goI, if_pos (Int32.le_refl _)]
  · show R_t_howMany8_2X_L0 0 p (nI N) f κ (t + 1) a (nI m) ↔ R_t_howMany8_2X_L0 0 p (nI N) f κ t (a + (if f (2 * m) = p then 1 else 0)) (nI (m + 1))
    have hm9 : m ≤ 1000 := by omega
    have hm8 : m < 100000 := by omega
    rw [R_t_howMany8_2X_L0]
    simp only [exists_eq_left, exists_eq_left']
    rw [goI, if_neg (nI_nge (by omega) hm)]
    simp only [exists_eq_left, exists_eq_left', ne_eq, goN, goI, ofI1, nI_s1 hm8, ite01, ite10, Int32.add_zero, Int32.sub_zero]
    simp only [tbN (R := 8) (V := 2) (c := 0) (f := f) (a := 8) (b := 2) (j := 0) (m := m) (by decide) (by decide) (by omega) (by omega) (by decide) (by omega) (by omega), Nat.add_zero]
    by_cases q0 : f (2 * m) = p <;> simp only [q0, if_true, if_false, ↓reduceIte, not_true_eq_false, not_false_eq_true, and_true, and_false, true_and, false_and, Int32.add_zero, Int32.sub_zero]
theorem hm_6_3 {p : Int32} {f : Nat → Int32} {N : Nat} {κ : Int32 → Prop} {x : Int32} (hN : N ≤ 6) : (∃ t : Nat, R_t_howMany6_3X_L0 0 p (nI N) f κ t x 0) ↔ κ (fo (fun k a => a + (if f (3 * k) = p then 1 else 0)) 0 N x) := by
  refine lpE (L := fun t a u => R_t_howMany6_3X_L0 0 p (nI N) f κ t a u) (fun a u h => h) (fun t a => ?_) (fun t a m hm => ?_) x
  · show R_t_howMany6_3X_L0 0 p (nI N) f κ (t + 1) a (nI N) ↔ κ a
    rw [R_t_howMany6_3X_L0]
    simp only [exists_eq_left]
    rw [goI, if_pos (Int32.le_refl _)]
  · show R_t_howMany6_3X_L0 0 p (nI N) f κ (t + 1) a (nI m) ↔ R_t_howMany6_3X_L0 0 p (nI N) f κ t (a + (if f (3 * m) = p then 1 else 0)) (nI (m + 1))
    have hm9 : m ≤ 1000 := by omega
    have hm8 : m < 100000 := by omega
    rw [R_t_howMany6_3X_L0]
    simp only [exists_eq_left, exists_eq_left']
    rw [goI, if_neg (nI_nge (by omega) hm)]
    simp only [exists_eq_left, exists_eq_left', ne_eq, goN, goI, ofI1, nI_s1 hm8, ite01, ite10, Int32.add_zero, Int32.sub_zero]
    simp only [tbN (R := 6) (V := 3) (c := 0) (f := f) (a := 6) (b := 3) (j := 0) (m := m) (by decide) (by decide) (by omega) (by omega) (by decide) (by omega) (by omega), Nat.add_zero]
    by_cases q0 : f (3 * m) = p <;> simp only [q0, if_true, if_false, ↓reduceIte, not_true_eq_false, not_false_eq_true, and_true, and_false, true_and, false_and, Int32.add_zero, Int32.sub_zero]
theorem md_on {p md : Int32} {f : Nat → Int32} {N : Nat} {κ : Int32 → Prop} {x : Int32} (hN : N ≤ 6) : (∃ t : Nat, R_s_mendedOnX_L0 p md (nI N) f κ t x 0) ↔ κ (fo (fun k a => a + (if ¬ Bt md k ∧ f (3 * k) = p then 1 else 0)) 0 N x) := by
  refine lpE (L := fun t a u => R_s_mendedOnX_L0 p md (nI N) f κ t a u) (fun a u h => h) (fun t a => ?_) (fun t a m hm => ?_) x
  · show R_s_mendedOnX_L0 p md (nI N) f κ (t + 1) a (nI N) ↔ κ a
    rw [R_s_mendedOnX_L0]
    simp only [exists_eq_left]
    rw [goI, if_pos (Int32.le_refl _)]
  · show R_s_mendedOnX_L0 p md (nI N) f κ (t + 1) a (nI m) ↔ R_s_mendedOnX_L0 p md (nI N) f κ t (a + (if ¬ Bt md m ∧ f (3 * m) = p then 1 else 0)) (nI (m + 1))
    have hm9 : m ≤ 1000 := by omega
    have hm8 : m < 100000 := by omega
    rw [R_s_mendedOnX_L0]
    simp only [exists_eq_left, exists_eq_left']
    rw [goI, if_neg (nI_nge (by omega) hm)]
    simp only [exists_eq_left, exists_eq_left', ne_eq, goN, goI, ofI1, nI_s1 hm8, ite01, ite10, Int32.add_zero, Int32.sub_zero]
    simp only [isWk hm (show N ≤ 1000 by omega), exists_eq_left, ite10, ite01, goN, goI, ne_eq, tbN (R := 6) (V := 3) (c := 0) (f := f) (a := 6) (b := 3) (j := 0) (m := m) (by decide) (by decide) (by omega) (by omega) (by decide) (by omega) (by omega), Nat.add_zero]
    rcases tf (Bt md m) with q0 | q0 <;> by_cases q1 : f (3 * m) = p <;> simp only [q0, q1, if_true, if_false, ↓reduceIte, not_true_eq_false, not_false_eq_true, and_true, and_false, true_and, false_and, Int32.add_zero, Int32.sub_zero]
theorem ls_lack {p : Int32} {f : Nat → Int32} {N : Nat} {κ : Int32 → Prop} {x : Int32} (hN : N ≤ 8) : (∃ t : Nat, R_c_lackedByX_L0 p (nI N) f κ t x 0) ↔ κ (fo (fun k a => a + (if f (2 * k) = p then f (2 * k + 1) else 0)) 0 N x) := by
  refine lpE (L := fun t a u => R_c_lackedByX_L0 p (nI N) f κ t a u) (fun a u h => h) (fun t a => ?_) (fun t a m hm => ?_) x
  · show R_c_lackedByX_L0 p (nI N) f κ (t + 1) a (nI N) ↔ κ a
    rw [R_c_lackedByX_L0]
    simp only [exists_eq_left]
    rw [goI, if_pos (Int32.le_refl _)]
  · show R_c_lackedByX_L0 p (nI N) f κ (t + 1) a (nI m) ↔ R_c_lackedByX_L0 p (nI N) f κ t (a + (if f (2 * m) = p then f (2 * m + 1) else 0)) (nI (m + 1))
    have hm9 : m ≤ 1000 := by omega
    have hm8 : m < 100000 := by omega
    rw [R_c_lackedByX_L0]
    simp only [exists_eq_left, exists_eq_left']
    rw [goI, if_neg (nI_nge (by omega) hm)]
    simp only [exists_eq_left, exists_eq_left', ne_eq, goN, goI, ofI1, nI_s1 hm8, ite01, ite10, Int32.add_zero, Int32.sub_zero]
    simp only [tbN (R := 8) (V := 2) (c := 0) (f := f) (a := 8) (b := 2) (j := 0) (m := m) (by decide) (by decide) (by omega) (by omega) (by decide) (by omega) (by omega), tbN (R := 8) (V := 2) (c := 1) (f := f) (a := 8) (b := 2) (j := 1) (m := m) (by decide) (by decide) (by omega) (by omega) (by decide) (by omega) (by omega), Nat.add_zero]
    by_cases q0 : f (2 * m) = p <;> simp only [q0, if_true, if_false, ↓reduceIte, not_true_eq_false, not_false_eq_true, and_true, and_false, true_and, false_and, Int32.add_zero, Int32.sub_zero]
theorem ls_words {p : Int32} {f : Nat → Int32} {N : Nat} {κ : Int32 → Prop} {x : Int32} (hN : N ≤ 8) : (∃ t : Nat, R_c_wordsX_L0 p (nI N) f κ t x 0) ↔ κ (fo (fun k a => a + (if f (2 * k) = p ∧ ¬ f (2 * k + 1) < 24 then 1 else 0)) 0 N x) := by
  refine lpE (L := fun t a u => R_c_wordsX_L0 p (nI N) f κ t a u) (fun a u h => h) (fun t a => ?_) (fun t a m hm => ?_) x
  · show R_c_wordsX_L0 p (nI N) f κ (t + 1) a (nI N) ↔ κ a
    rw [R_c_wordsX_L0]
    simp only [exists_eq_left]
    rw [goI, if_pos (Int32.le_refl _)]
  · show R_c_wordsX_L0 p (nI N) f κ (t + 1) a (nI m) ↔ R_c_wordsX_L0 p (nI N) f κ t (a + (if f (2 * m) = p ∧ ¬ f (2 * m + 1) < 24 then 1 else 0)) (nI (m + 1))
    have hm9 : m ≤ 1000 := by omega
    have hm8 : m < 100000 := by omega
    rw [R_c_wordsX_L0]
    simp only [exists_eq_left, exists_eq_left']
    rw [goI, if_neg (nI_nge (by omega) hm)]
    simp only [exists_eq_left, exists_eq_left', ne_eq, goN, goI, ofI1, nI_s1 hm8, ite01, ite10, Int32.add_zero, Int32.sub_zero]
    simp only [tbN (R := 8) (V := 2) (c := 0) (f := f) (a := 8) (b := 2) (j := 0) (m := m) (by decide) (by decide) (by omega) (by omega) (by decide) (by omega) (by omega), tbN (R := 8) (V := 2) (c := 1) (f := f) (a := 8) (b := 2) (j := 1) (m := m) (by decide) (by decide) (by omega) (by omega) (by decide) (by omega) (by omega), Nat.add_zero]
    by_cases q0 : f (2 * m) = p <;> by_cases q1 : f (2 * m + 1) < 24 <;> simp only [q0, q1, if_true, if_false, ↓reduceIte, not_true_eq_false, not_false_eq_true, and_true, and_false, true_and, false_and, Int32.add_zero, Int32.sub_zero]
theorem lr_marks {p : Int32} {F : Nat → Int32} {N : Nat} {κ : Int32 → Prop} {x : Int32} (hN : N ≤ 12) (hF : F 8 = nI N) : (∃ t : Nat, R_m_marksOfX_L0 p F κ t x 0) ↔ κ (fo (fun k a => a + (if F (44 + 3 * k) = p then 1 else 0)) 0 N x) := by
  refine lpE (L := fun t a u => R_m_marksOfX_L0 p F κ t a u) (fun a u h => h) (fun t a => ?_) (fun t a m hm => ?_) x
  · show R_m_marksOfX_L0 p F κ (t + 1) a (nI N) ↔ κ a
    rw [R_m_marksOfX_L0]
    simp only [exists_eq_left, tc_8, hF]
    rw [goI, if_pos (Int32.le_refl _)]
  · show R_m_marksOfX_L0 p F κ (t + 1) a (nI m) ↔ R_m_marksOfX_L0 p F κ t (a + (if F (44 + 3 * m) = p then 1 else 0)) (nI (m + 1))
    have hm9 : m ≤ 1000 := by omega
    have hm8 : m < 100000 := by omega
    rw [R_m_marksOfX_L0]
    simp only [exists_eq_left, exists_eq_left', tc_8, hF]
    rw [goI, if_neg (nI_nge (by omega) hm)]
    simp only [exists_eq_left, exists_eq_left', ne_eq, goN, goI, ofI1, nI_s1 hm8, ite01, ite10, Int32.add_zero, Int32.sub_zero]
    simp only [ix_44_3_0 hm9]
    by_cases q0 : F (44 + 3 * m) = p <;> simp only [q0, if_true, if_false, ↓reduceIte, not_true_eq_false, not_false_eq_true, and_true, and_false, true_and, false_and, Int32.add_zero, Int32.sub_zero]
theorem lr_joins0 {p : Int32} {F : Nat → Int32} {N : Nat} {κ : Int32 → Prop} {x : Int32} (hN : N ≤ 8) (hF : F 9 = nI N) : (∃ t : Nat, R_m_joinsOfX_L0 p F κ t x 0) ↔ κ (fo (fun k a => a + (if F (80 + 2 * k) = p then 1 else 0)) 0 N x) := by
  refine lpE (L := fun t a u => R_m_joinsOfX_L0 p F κ t a u) (fun a u h => h) (fun t a => ?_) (fun t a m hm => ?_) x
  · show R_m_joinsOfX_L0 p F κ (t + 1) a (nI N) ↔ κ a
    rw [R_m_joinsOfX_L0]
    simp only [exists_eq_left, tc_9, hF]
    rw [goI, if_pos (Int32.le_refl _)]
  · show R_m_joinsOfX_L0 p F κ (t + 1) a (nI m) ↔ R_m_joinsOfX_L0 p F κ t (a + (if F (80 + 2 * m) = p then 1 else 0)) (nI (m + 1))
    have hm9 : m ≤ 1000 := by omega
    have hm8 : m < 100000 := by omega
    rw [R_m_joinsOfX_L0]
    simp only [exists_eq_left, exists_eq_left', tc_9, hF]
    rw [goI, if_neg (nI_nge (by omega) hm)]
    simp only [exists_eq_left, exists_eq_left', ne_eq, goN, goI, ofI1, nI_s1 hm8, ite01, ite10, Int32.add_zero, Int32.sub_zero]
    simp only [ix_80_2_0 hm9]
    by_cases q0 : F (80 + 2 * m) = p <;> simp only [q0, if_true, if_false, ↓reduceIte, not_true_eq_false, not_false_eq_true, and_true, and_false, true_and, false_and, Int32.add_zero, Int32.sub_zero]
theorem lr_joins1 {p : Int32} {F S : Nat → Int32} {N : Nat} {κ : Int32 → Prop} {x : Int32} (hN : N ≤ 6) (hF : F 10 = nI N) : (∃ t : Nat, R_m_joinsOfX_L1 p F S κ t x 0) ↔ κ (fo (fun k a => a + (if ¬ Bt (S 43) k ∧ F (96 + 3 * k) = p then 1 else 0)) 0 N x) := by
  refine lpE (L := fun t a u => R_m_joinsOfX_L1 p F S κ t a u) (fun a u h => h) (fun t a => ?_) (fun t a m hm => ?_) x
  · show R_m_joinsOfX_L1 p F S κ (t + 1) a (nI N) ↔ κ a
    rw [R_m_joinsOfX_L1]
    simp only [exists_eq_left, tc_10, hF]
    rw [goI, if_pos (Int32.le_refl _)]
  · show R_m_joinsOfX_L1 p F S κ (t + 1) a (nI m) ↔ R_m_joinsOfX_L1 p F S κ t (a + (if ¬ Bt (S 43) m ∧ F (96 + 3 * m) = p then 1 else 0)) (nI (m + 1))
    have hm9 : m ≤ 1000 := by omega
    have hm8 : m < 100000 := by omega
    rw [R_m_joinsOfX_L1]
    simp only [exists_eq_left, exists_eq_left', tc_10, hF]
    rw [goI, if_neg (nI_nge (by omega) hm)]
    simp only [exists_eq_left, exists_eq_left', ne_eq, goN, goI, ofI1, nI_s1 hm8, ite01, ite10, Int32.add_zero, Int32.sub_zero]
    simp only [isMd, exists_eq_left, ite01, ite10, goI, goN, ne_eq, ix_96_3_0 hm9]
    rcases tf (Bt (S 43) m) with q0 | q0 <;> by_cases q1 : F (96 + 3 * m) = p <;> simp only [q0, q1, if_true, if_false, ↓reduceIte, not_true_eq_false, not_false_eq_true, and_true, and_false, true_and, false_and, Int32.add_zero, Int32.sub_zero]
theorem lr_weaks {p : Int32} {F S : Nat → Int32} {N : Nat} {κ : Int32 → Prop} {x : Int32} (hN : N ≤ 6) (hF : F 10 = nI N) : (∃ t : Nat, R_m_weaksOfX_L0 p F S κ t x 0) ↔ κ (fo (fun k a => a + (if Bt (S 43) k ∧ F (96 + 3 * k) = p then 1 else 0)) 0 N x) := by
  refine lpE (L := fun t a u => R_m_weaksOfX_L0 p F S κ t a u) (fun a u h => h) (fun t a => ?_) (fun t a m hm => ?_) x
  · show R_m_weaksOfX_L0 p F S κ (t + 1) a (nI N) ↔ κ a
    rw [R_m_weaksOfX_L0]
    simp only [exists_eq_left, tc_10, hF]
    rw [goI, if_pos (Int32.le_refl _)]
  · show R_m_weaksOfX_L0 p F S κ (t + 1) a (nI m) ↔ R_m_weaksOfX_L0 p F S κ t (a + (if Bt (S 43) m ∧ F (96 + 3 * m) = p then 1 else 0)) (nI (m + 1))
    have hm9 : m ≤ 1000 := by omega
    have hm8 : m < 100000 := by omega
    rw [R_m_weaksOfX_L0]
    simp only [exists_eq_left, exists_eq_left', tc_10, hF]
    rw [goI, if_neg (nI_nge (by omega) hm)]
    simp only [exists_eq_left, exists_eq_left', ne_eq, goN, goI, ofI1, nI_s1 hm8, ite01, ite10, Int32.add_zero, Int32.sub_zero]
    simp only [isMd, exists_eq_left, ite01, ite10, goI, goN, ne_eq, ix_96_3_0 hm9]
    rcases tf (Bt (S 43) m) with q0 | q0 <;> by_cases q1 : F (96 + 3 * m) = p <;> simp only [q0, q1, if_true, if_false, ↓reduceIte, not_true_eq_false, not_false_eq_true, and_true, and_false, true_and, false_and, Int32.add_zero, Int32.sub_zero]
theorem lr_miss0 {p : Int32} {F : Nat → Int32} {N : Nat} {κ : Int32 → Prop} {x : Int32} (hN : N ≤ 8) (hF : F 9 = nI N) : (∃ t : Nat, R_m_missingX_L0 p F κ t x 0) ↔ κ (fo (fun k a => a - (if F (80 + 2 * k) = p then F (80 + 2 * k + 1) else 0)) 0 N x) := by
  refine lpE (L := fun t a u => R_m_missingX_L0 p F κ t a u) (fun a u h => h) (fun t a => ?_) (fun t a m hm => ?_) x
  · show R_m_missingX_L0 p F κ (t + 1) a (nI N) ↔ κ a
    rw [R_m_missingX_L0]
    simp only [exists_eq_left, tc_9, hF]
    rw [goI, if_pos (Int32.le_refl _)]
  · show R_m_missingX_L0 p F κ (t + 1) a (nI m) ↔ R_m_missingX_L0 p F κ t (a - (if F (80 + 2 * m) = p then F (80 + 2 * m + 1) else 0)) (nI (m + 1))
    have hm9 : m ≤ 1000 := by omega
    have hm8 : m < 100000 := by omega
    rw [R_m_missingX_L0]
    simp only [exists_eq_left, exists_eq_left', tc_9, hF]
    rw [goI, if_neg (nI_nge (by omega) hm)]
    simp only [exists_eq_left, exists_eq_left', ne_eq, goN, goI, ofI1, nI_s1 hm8, ite01, ite10, Int32.add_zero, Int32.sub_zero]
    simp only [ix_80_2_0 hm9, ix_80_2_1 hm9]
    by_cases q0 : F (80 + 2 * m) = p <;> simp only [q0, if_true, if_false, ↓reduceIte, not_true_eq_false, not_false_eq_true, and_true, and_false, true_and, false_and, Int32.add_zero, Int32.sub_zero]
theorem lr_miss1 {p : Int32} {F S : Nat → Int32} {N : Nat} {κ : Int32 → Prop} {x : Int32} (hN : N ≤ 6) (hF : F 10 = nI N) : (∃ t : Nat, R_m_missingX_L1 p F S κ t x 0) ↔ κ (fo (fun k a => a - (if ¬ Bt (S 43) k ∧ F (96 + 3 * k) = p then 2 else 0)) 0 N x) := by
  refine lpE (L := fun t a u => R_m_missingX_L1 p F S κ t a u) (fun a u h => h) (fun t a => ?_) (fun t a m hm => ?_) x
  · show R_m_missingX_L1 p F S κ (t + 1) a (nI N) ↔ κ a
    rw [R_m_missingX_L1]
    simp only [exists_eq_left, tc_10, hF]
    rw [goI, if_pos (Int32.le_refl _)]
  · show R_m_missingX_L1 p F S κ (t + 1) a (nI m) ↔ R_m_missingX_L1 p F S κ t (a - (if ¬ Bt (S 43) m ∧ F (96 + 3 * m) = p then 2 else 0)) (nI (m + 1))
    have hm9 : m ≤ 1000 := by omega
    have hm8 : m < 100000 := by omega
    rw [R_m_missingX_L1]
    simp only [exists_eq_left, exists_eq_left', tc_10, hF]
    rw [goI, if_neg (nI_nge (by omega) hm)]
    simp only [exists_eq_left, exists_eq_left', ne_eq, goN, goI, ofI1, nI_s1 hm8, ite01, ite10, Int32.add_zero, Int32.sub_zero]
    simp only [isMd, exists_eq_left, ite01, ite10, goI, goN, ne_eq, ix_96_3_0 hm9]
    rcases tf (Bt (S 43) m) with q0 | q0 <;> by_cases q1 : F (96 + 3 * m) = p <;> simp only [q0, q1, if_true, if_false, ↓reduceIte, not_true_eq_false, not_false_eq_true, and_true, and_false, true_and, false_and, Int32.add_zero, Int32.sub_zero]
theorem lr_words {p : Int32} {F : Nat → Int32} {N : Nat} {κ : Int32 → Prop} {x : Int32} (hN : N ≤ 8) (hF : F 9 = nI N) : (∃ t : Nat, R_m_wordsX_L0 p F κ t x 0) ↔ κ (fo (fun k a => a + (if F (80 + 2 * k) = p ∧ ¬ F (80 + 2 * k + 1) < 24 then 1 else 0)) 0 N x) := by
  refine lpE (L := fun t a u => R_m_wordsX_L0 p F κ t a u) (fun a u h => h) (fun t a => ?_) (fun t a m hm => ?_) x
  · show R_m_wordsX_L0 p F κ (t + 1) a (nI N) ↔ κ a
    rw [R_m_wordsX_L0]
    simp only [exists_eq_left, tc_9, hF]
    rw [goI, if_pos (Int32.le_refl _)]
  · show R_m_wordsX_L0 p F κ (t + 1) a (nI m) ↔ R_m_wordsX_L0 p F κ t (a + (if F (80 + 2 * m) = p ∧ ¬ F (80 + 2 * m + 1) < 24 then 1 else 0)) (nI (m + 1))
    have hm9 : m ≤ 1000 := by omega
    have hm8 : m < 100000 := by omega
    rw [R_m_wordsX_L0]
    simp only [exists_eq_left, exists_eq_left', tc_9, hF]
    rw [goI, if_neg (nI_nge (by omega) hm)]
    simp only [exists_eq_left, exists_eq_left', ne_eq, goN, goI, ofI1, nI_s1 hm8, ite01, ite10, Int32.add_zero, Int32.sub_zero]
    simp only [ix_80_2_0 hm9, ix_80_2_1 hm9]
    by_cases q0 : F (80 + 2 * m) = p <;> by_cases q1 : F (80 + 2 * m + 1) < 24 <;> simp only [q0, q1, if_true, if_false, ↓reduceIte, not_true_eq_false, not_false_eq_true, and_true, and_false, true_and, false_and, Int32.add_zero, Int32.sub_zero]
theorem lr_ones {p : Int32} {κ : Int32 → Prop} {x : Int32}  : (∃ t : Nat, R_m_onesX_L0 p κ t x 0) ↔ κ (fo (fun k a => a + ((p >>> (nI k &&& 31)) &&& 1)) 0 8 x) := by
  have n8 : (8 : Int32) = nI 8 := by decide
  refine lpE (N := 8) (L := fun t a u => R_m_onesX_L0 p κ t a u) (fun a u h => h) (fun t a => ?_) (fun t a m hm => ?_) x
  · show R_m_onesX_L0 p κ (t + 1) a (nI 8) ↔ κ a
    rw [R_m_onesX_L0]
    simp only [exists_eq_left]
    rw [n8, goI, if_pos (Int32.le_refl _)]
  · show R_m_onesX_L0 p κ (t + 1) a (nI m) ↔ R_m_onesX_L0 p κ t (a + ((p >>> (nI m &&& 31)) &&& 1)) (nI (m + 1))
    have hm9 : m ≤ 1000 := by omega
    have hm8 : m < 100000 := by omega
    rw [R_m_onesX_L0]
    simp only [exists_eq_left, exists_eq_left']
    rw [n8, goI, if_neg (nI_nge (by omega) hm)]
    simp only [exists_eq_left, exists_eq_left', ne_eq, goN, goI, ofI1, nI_s1 hm8, ite01, ite10, Int32.add_zero, Int32.sub_zero]
theorem ls_mark {p q r : Int32} {f : Nat → Int32} {N : Nat} (hN : N ≤ 12) : R_s_markByX p q (nI N) f r ↔ r = ff (fun k => f (3 * k) = p ∧ f (3 * k + 2) = q) (fun k => f (3 * k + 1)) (-2) 0 N := by
  unfold R_s_markByX
  refine lpF (L := fun t u => R_s_markByX_L0 p q (nI N) f r (r = -2) t u) (fun u h => h) (fun t => ?_) (fun t m hm => ?_)
  · show R_s_markByX_L0 p q (nI N) f r (r = -2) (t + 1) (nI N) ↔ r = -2
    rw [R_s_markByX_L0, goI, if_pos (Int32.le_refl _)]
  · have hm8 : m < 100000 := by omega
    show R_s_markByX_L0 p q (nI N) f r (r = -2) (t + 1) (nI m) ↔ (if f (3 * m) = p ∧ f (3 * m + 2) = q then r = f (3 * m + 1) else R_s_markByX_L0 p q (nI N) f r (r = -2) t (nI (m + 1)))
    rw [R_s_markByX_L0, goI, if_neg (nI_nge (by omega) hm)]
    simp only [exists_eq_left, exists_eq_left', ne_eq, goN, ofI1, nI_s1 hm8, tbN (R := 12) (V := 3) (c := 0) (f := f) (a := 12) (b := 3) (j := 0) (m := m) (by decide) (by decide) (by omega) (by omega) (by decide) (by omega) (by omega), tbN (R := 12) (V := 3) (c := 1) (f := f) (a := 12) (b := 3) (j := 1) (m := m) (by decide) (by decide) (by omega) (by omega) (by decide) (by omega) (by omega), tbN (R := 12) (V := 3) (c := 2) (f := f) (a := 12) (b := 3) (j := 2) (m := m) (by decide) (by decide) (by omega) (by omega) (by decide) (by omega) (by omega), Nat.add_zero]
    by_cases q0 : f (3 * m) = p <;> by_cases q1 : f (3 * m + 2) = q <;> simp only [q0, q1, if_true, if_false, ↓reduceIte, not_true_eq_false, not_false_eq_true, and_true, and_false, true_and, false_and, Int32.add_zero, Int32.sub_zero]
theorem lr_mark {p q r : Int32} {F S : Nat → Int32} {N : Nat} (hN : N ≤ 12) (hF : F 8 = nI N) : R_m_markOfX p q F S r ↔ r = ff (fun k => F (44 + 3 * k) = p ∧ F (44 + 3 * k + 2) = q) (fun k => S (16 + k)) (-2) 0 N := by
  unfold R_m_markOfX
  refine lpF (L := fun t u => R_m_markOfX_L0 p q F S r (r = -2) t u) (fun u h => h) (fun t => ?_) (fun t m hm => ?_)
  · show R_m_markOfX_L0 p q F S r (r = -2) (t + 1) (nI N) ↔ r = -2
    rw [R_m_markOfX_L0]
    simp only [exists_eq_left, tc_8, hF]
    rw [goI, if_pos (Int32.le_refl _)]
  · have hm9 : m ≤ 1000 := by omega
    have hm8 : m < 100000 := by omega
    show R_m_markOfX_L0 p q F S r (r = -2) (t + 1) (nI m) ↔ (if F (44 + 3 * m) = p ∧ F (44 + 3 * m + 2) = q then r = S (16 + m) else R_m_markOfX_L0 p q F S r (r = -2) t (nI (m + 1)))
    rw [R_m_markOfX_L0]
    simp only [exists_eq_left, tc_8, hF]
    rw [goI, if_neg (nI_nge (by omega) hm)]
    simp only [exists_eq_left, exists_eq_left', ne_eq, goN, ofI1, nI_s1 hm8, ix_44_3_0 hm9, ix_44_3_2 hm9, ix_16 hm9]
    by_cases q0 : F (44 + 3 * m) = p <;> by_cases q1 : F (44 + 3 * m + 2) = q <;> simp only [q0, q1, if_true, if_false, ↓reduceIte, not_true_eq_false, not_false_eq_true, and_true, and_false, true_and, false_and, Int32.add_zero, Int32.sub_zero]
