set_option maxRecDepth 100000
set_option maxHeartbeats 4000000
def MT (ρ : Rs ((Nat → Int32) × Int32)) (κ0 : Int32 → Int32 → Int32 → Int32 → (Nat → Int32) → (Nat → Int32) → Int32 → Int32 → Int32 → Int32 → Prop) (κ1 : Int32 → (Nat → Int32) → Int32 → Int32 → Int32 → Int32 → Int32 → (Nat → Int32) → Int32 → Int32 → Prop) : Prop :=
  (∃ (e : Int32 × Int32) (A E N t w : Int32) (F L : Nat → Int32), ρ = .inl e ∧ κ0 A E 1 e.1 F L N e.2 t w) ∨
  (∃ (v : (Nat → Int32) × Int32) (E N w pl tk : Int32) (L : Nat → Int32), κ1 tk v.1 v.2 0 pl 0 E L N w ∧ ((tk = 0 ∧ ((v.1 12 = 0 ∨ v.1 11 = 0) ∧ ρ = .inl (6, v.2) ∨ (v.1 15 ≠ 0 ∧ v.1 12 ≠ 0 ∧ v.1 11 ≠ 0) ∧ ρ = .inr v)) ∨ (tk ≠ 0 ∧ ρ = .inl (1, v.2))))
theorem qm_text {T : Nat → Int32} {n : Int32} {κ0 : Int32 → Int32 → Int32 → Int32 → (Nat → Int32) → (Nat → Int32) → Int32 → Int32 → Int32 → Int32 → Prop} {κ1 : Int32 → (Nat → Int32) → Int32 → Int32 → Int32 → Int32 → Int32 → (Nat → Int32) → Int32 → Int32 → Prop} (hn : IV n 0 900) : ∀ (k : Nat) (F : Nat → Int32) (a : Int32) (ρ : Rs ((Nat → Int32) × Int32)), TxR T n k F a ρ → ∀ (f : Nat) (F2 L2 : Nat → Int32) (pl fd at_ en tk wh ns ft : Int32), MF T n F (lineS F T n a) at_ en fd ft F2 L2 ns pl tk wh → R_m_houseX_L1 n T κ0 κ1 f F2 L2 pl fd at_ en tk wh ns ft → MT ρ κ0 κ1 := by
  intro k
  induction k with
  | zero => intro F a ρ h; exact h.elim
  | succ k ih =>
    intro F a ρ h f F2 L2 pl fd at_ en tk wh ns ft hm hl
    rw [TxR] at h
    obtain ⟨hF, h⟩ := h
    cases f with
    | zero => exact hl.elim
    | succ f =>
      unfold R_m_houseX_L1 at hl
      rcases h with ⟨e, h1, h⟩ | ⟨v, h1, h⟩
      · rw [h1] at hm
        obtain ⟨m1, m2, m3⟩ := hm
        rcases hl with ⟨-, hl⟩ | ⟨q, -⟩
        · subst m1 m2 m3
          exact Or.inl ⟨e, _, _, _, _, _, _, _, h, hl⟩
        · rw [m1] at q; exact absurd q one0
      · rw [h1] at hm
        obtain ⟨m0, m1, m2, m3, m4, m5⟩ := hm
        rcases hl with ⟨q, -⟩ | ⟨-, hl⟩
        · exact absurd m1 q
        subst m0 m1 m2 m3
        have ek : tk = tmF (tkF T n v.2) := m5.2.1
        rcases hl with ⟨q59, hl⟩ | ⟨q59, hl⟩
        · have n3 : tkF T n v.2 ≠ 3 := fun q => q59 (by rw [ek]; exact tm59.mpr q)
          refine Or.inr ⟨v, _, _, _, _, _, _, hl, ?_⟩
          rcases h with ⟨q, -⟩ | ⟨q, h⟩ | ⟨q, q0, h⟩
          · exact absurd q n3
          · exact Or.inl ⟨by rw [ek]; exact tm0.mpr q, h⟩
          · exact Or.inr ⟨fun w => q0 (tm0.mp (ek.symm.trans w)), h⟩
        · have y3 : tkF T n v.2 = 3 := tm59.mp (ek.symm.trans q59)
          have h' : TxR T n k v.1 (nx T n v.2) ρ := by
            rcases h with ⟨-, h⟩ | ⟨q, -⟩ | ⟨q, -⟩
            · exact h
            · exact absurd (y3.symm.trans q) (by decide)
            · exact absurd y3 q
          clear h
          refine exE6 hl ?_
          clear hl
          intro A E M N t w hx hl
          refine exE10 hl ?_
          clear hl
          intro A2 E2 f2 u2 G2 M2 N2 p2 t2 w2 hr hl
          obtain ⟨x1, x2, x3⟩ := qm_next_at hn m4 m5 hx
          subst x1
          cases k with
          | zero => exact h'.elim
          | succ k =>
            have hF2 : FIv v.1 := by rw [TxR] at h'; exact h'.1
            have mr := qm_readLine hn hF2 ⟨rfl, rfl, rfl, x2, x3⟩ hr
            exact ih _ _ _ h' _ _ _ _ _ _ _ _ _ _ _ mr hl
theorem qm_zero {κ : (Nat → Int32) → Prop} : ∀ (f : Nat) (F : Nat → Int32) (u : Int32) (m : Nat), u.toInt = m → m ≤ 311 → (∀ i : Nat, i < m → F i = 0) → R_m_houseX_L0 κ f F u → ∃ G : Nat → Int32, (∀ i : Nat, i < 311 → G i = 0) ∧ κ G := by
  intro f
  induction f with
  | zero => intro F u m _ _ _ h; exact h.elim
  | succ f ih =>
    intro F u m hu hm hF h
    unfold R_m_houseX_L0 at h
    have e : (311 : Int32).toInt = 311 := by decide
    rcases h with ⟨q, h⟩ | ⟨q, h⟩
    · rw [le_I, e] at q
      exact ⟨F, fun i hi => hF i (by omega), h⟩
    · rw [le_I, e] at q
      obtain ⟨G, hG, z, hz, h⟩ := h
      rw [ofI1] at hz
      have ez := inc1 (u := u) (z := z) (a := 0) (b := 900) ⟨by omega, by omega⟩ (by omega) (by omega) hz.symm
      have en : u.toNatClampNeg = m := by have := Int32.toNat_toInt u; omega
      refine ih G z (m + 1) (by omega) (by omega) ?_ h
      intro i hi
      rw [hG, en]
      by_cases w : i = m
      · rw [w, upd_at]
      · rw [upd_ne w]; exact hF i (by omega)

theorem add1y {u z : Int32} {m : Nat} (hu : u.toInt = m) (hm : m < 1000) (hz : u + Int32.ofInt 1 = z) : z.toInt = (m + 1 : Nat) := by
  have o : (Int32.ofInt 1).toInt = 1 := by decide
  rw [← hz, Int32.toInt_add, o, hu, Int.bmod_eq_of_le (by omega) (by omega)]
  omega
theorem addy {a b z : Int32} {x y : Nat} (ha : a.toInt = x) (hb : b.toInt = y) (hx : x + y < 10000) (hz : z = a + b) : z.toInt = (x + y : Nat) := by
  rw [hz, Int32.toInt_add, ha, hb, Int.bmod_eq_of_le (by omega) (by omega)]
  omega
theorem tny {z : Int32} {x : Nat} (h : z.toInt = x) : z.toNatClampNeg = x := by
  have := tn_i (z := z) (by omega)
  omega
theorem mul3y {a z : Int32} {x : Nat} (ha : a.toInt = x) (hx : x ≤ 1000) (hz : z = (3 : Int32) * a) : z.toInt = (3 * x : Nat) := by
  have e : (3 : Int32).toInt = 3 := by decide
  rw [hz, Int32.toInt_mul, e, ha, Int.bmod_eq_of_le (by omega) (by omega)]
  omega
def StF (F S : Nat → Int32) : Prop := (∀ k : Nat, (k : Int) < (F 6).toInt → S k = F (16 + 3 * k) ∧ S (8 + k) = F (16 + 3 * k + 1)) ∧ (∀ k : Nat, (k : Int) < (F 8).toInt → S (16 + k) = F (44 + 3 * k + 1)) ∧ (∀ k : Nat, (k : Int) < (F 10).toInt → S (28 + k) = F (96 + 3 * k + 1)) ∧ (∀ k : Nat, (k : Int) < (F 12).toInt → S (34 + k) = F 2) ∧ S 42 = 0 ∧ S 43 = 0
theorem fill2 {κ : (Nat → Int32) → Prop} : ∀ (f : Nat) (S : Nat → Int32) (u : Int32) (m : Nat), u.toInt = m → m ≤ 44 → (∀ i : Nat, i < m → S i = 0) → R_m_houseX_L2 κ f S u → ∃ G : Nat → Int32, κ G ∧ (∀ i : Nat, i < 44 → G i = 0) := by
  intro f
  induction f with
  | zero => intro S u m _ _ _ h; exact h.elim
  | succ f ih =>
    intro S u m hu hm hI h
    have e : (44 : Int32).toInt = 44 := by decide
    unfold R_m_houseX_L2 at h
    rcases h with ⟨q, h⟩ | ⟨q, z, hz, h⟩
    · rw [le_I, e] at q
      exact ⟨S, h, fun i hi => hI i (by omega)⟩
    · rw [le_I, e] at q
      rw [tny hu] at h
      refine ih _ z (m + 1) (add1y hu (by omega) hz) (by omega) (fun i hi => ?_) h
      by_cases w : i = m
      · rw [w, upd_at]
      · rw [upd_ne w]; exact hI i (by omega)
theorem fill3 {R S0 : Nat → Int32} {κ : (Nat → Int32) → Prop} {N : Nat} (hn : (R 6).toInt = N) (hN : N ≤ 8) : ∀ (f : Nat) (S : Nat → Int32) (u : Int32) (m : Nat), u.toInt = m → m ≤ N → (∀ k : Nat, k < m → S k = R (16 + 3 * k) ∧ S (8 + k) = R (16 + 3 * k + 1)) → (∀ i : Nat, 16 ≤ i → S i = S0 i) → R_m_houseX_L3 R κ f S u → ∃ G : Nat → Int32, κ G ∧ (∀ k : Nat, k < N → G k = R (16 + 3 * k) ∧ G (8 + k) = R (16 + 3 * k + 1)) ∧ (∀ i : Nat, 16 ≤ i → G i = S0 i) := by
  intro f
  induction f with
  | zero => intro S u m _ _ _ _ h; exact h.elim
  | succ f ih =>
    intro S u m hu hm hI hO h
    have e6 : (6 : Int32).toNatClampNeg = 6 := by decide
    unfold R_m_houseX_L3 at h
    obtain ⟨z0, h0, h⟩ := h
    rw [e6] at h0
    subst h0
    rcases h with ⟨q, h⟩ | ⟨q, z1, h1, z2, h2, z3, h3, z4, h4, z5, h5, z6, h6, z7, h7, z, hz, h⟩
    · rw [le_I] at q
      obtain rfl : m = N := by omega
      exact ⟨S, h, hI, hO⟩
    · rw [le_I] at q
      have t1 := tny (addy (x := 0) (by decide) hu (by omega) h1)
      have t2 := mul3y hu (by omega) h2
      have t3 := addy (show (16 : Int32).toInt = (16 : Nat) by decide) t2 (by omega) h3
      have t5 := tny (addy (show (8 : Int32).toInt = (8 : Nat) by decide) hu (by omega) h5)
      have t6 := tny (addy t3 (show (1 : Int32).toInt = (1 : Nat) by decide) (by omega) h6)
      rw [tny t3] at h4
      rw [t6] at h7
      rw [t1, t5, show 0 + m = m by omega] at h
      refine ih _ z (m + 1) (add1y hu (by omega) hz) (by omega) (fun k hk => ?_) (fun i hi => ?_) h
      · by_cases w : k = m
        · subst w
          rw [upd_ne (by omega), upd_at, upd_at, h4, h7]
          exact ⟨rfl, rfl⟩
        · rw [upd_ne (by omega), upd_ne (by omega), upd_ne (by omega), upd_ne (by omega)]; exact hI k (by omega)
      · rw [upd_ne (by omega), upd_ne (by omega)]; exact hO i hi
theorem fill4 {R S0 : Nat → Int32} {κ : (Nat → Int32) → Prop} {N : Nat} (hn : (R 8).toInt = N) (hN : N ≤ 12) : ∀ (f : Nat) (S : Nat → Int32) (u : Int32) (m : Nat), u.toInt = m → m ≤ N → (∀ k : Nat, k < m → S (16 + k) = R (44 + 3 * k + 1)) → (∀ i : Nat, (i < 16 ∨ 28 ≤ i) → S i = S0 i) → R_m_houseX_L4 R κ f S u → ∃ G : Nat → Int32, κ G ∧ (∀ k : Nat, k < N → G (16 + k) = R (44 + 3 * k + 1)) ∧ (∀ i : Nat, (i < 16 ∨ 28 ≤ i) → G i = S0 i) := by
  intro f
  induction f with
  | zero => intro S u m _ _ _ _ h; exact h.elim
  | succ f ih =>
    intro S u m hu hm hI hO h
    have e6 : (8 : Int32).toNatClampNeg = 8 := by decide
    unfold R_m_houseX_L4 at h
    obtain ⟨z0, h0, h⟩ := h
    rw [e6] at h0
    subst h0
    rcases h with ⟨q, h⟩ | ⟨q, z1, h1, z2, h2, z3, h3, z4, h4, z5, h5, z, hz, h⟩
    · rw [le_I] at q
      obtain rfl : m = N := by omega
      exact ⟨S, h, hI, hO⟩
    · rw [le_I] at q
      have t1 := tny (addy (show (16 : Int32).toInt = (16 : Nat) by decide) hu (by omega) h1)
      have t2 := mul3y hu (by omega) h2
      have t3 := addy (show (44 : Int32).toInt = (44 : Nat) by decide) t2 (by omega) h3
      have t4 := tny (addy t3 (show (1 : Int32).toInt = (1 : Nat) by decide) (by omega) h4)
      rw [t4] at h5
      rw [t1] at h
      refine ih _ z (m + 1) (add1y hu (by omega) hz) (by omega) (fun k hk => ?_) (fun i hi => ?_) h
      · by_cases w : k = m
        · subst w
          rw [upd_at, h5]
        · rw [upd_ne (by omega)]; exact hI k (by omega)
      · rw [upd_ne (by omega)]; exact hO i hi
theorem fill5 {R S0 : Nat → Int32} {κ : (Nat → Int32) → Prop} {N : Nat} (hn : (R 10).toInt = N) (hN : N ≤ 6) : ∀ (f : Nat) (S : Nat → Int32) (u : Int32) (m : Nat), u.toInt = m → m ≤ N → (∀ k : Nat, k < m → S (28 + k) = R (96 + 3 * k + 1)) → (∀ i : Nat, (i < 28 ∨ 34 ≤ i) → S i = S0 i) → R_m_houseX_L5 R κ f S u → ∃ G : Nat → Int32, κ G ∧ (∀ k : Nat, k < N → G (28 + k) = R (96 + 3 * k + 1)) ∧ (∀ i : Nat, (i < 28 ∨ 34 ≤ i) → G i = S0 i) := by
  intro f
  induction f with
  | zero => intro S u m _ _ _ _ h; exact h.elim
  | succ f ih =>
    intro S u m hu hm hI hO h
    have e6 : (10 : Int32).toNatClampNeg = 10 := by decide
    unfold R_m_houseX_L5 at h
    obtain ⟨z0, h0, h⟩ := h
    rw [e6] at h0
    subst h0
    rcases h with ⟨q, h⟩ | ⟨q, z1, h1, z2, h2, z3, h3, z4, h4, z5, h5, z, hz, h⟩
    · rw [le_I] at q
      obtain rfl : m = N := by omega
      exact ⟨S, h, hI, hO⟩
    · rw [le_I] at q
      have t1 := tny (addy (show (28 : Int32).toInt = (28 : Nat) by decide) hu (by omega) h1)
      have t2 := mul3y hu (by omega) h2
      have t3 := addy (show (96 : Int32).toInt = (96 : Nat) by decide) t2 (by omega) h3
      have t4 := tny (addy t3 (show (1 : Int32).toInt = (1 : Nat) by decide) (by omega) h4)
      rw [t4] at h5
      rw [t1] at h
      refine ih _ z (m + 1) (add1y hu (by omega) hz) (by omega) (fun k hk => ?_) (fun i hi => ?_) h
      · by_cases w : k = m
        · subst w
          rw [upd_at, h5]
        · rw [upd_ne (by omega)]; exact hI k (by omega)
      · rw [upd_ne (by omega)]; exact hO i hi
theorem fill6 {R S0 : Nat → Int32} {κ : (Nat → Int32) → Int32 → Prop} {N : Nat} (hn : (R 12).toInt = N) (hN : N ≤ 8) : ∀ (f : Nat) (S : Nat → Int32) (u : Int32) (m : Nat), u.toInt = m → m ≤ N → (∀ k : Nat, k < m → S (34 + k) = R 2) → (∀ i : Nat, (i < 34 ∨ 42 ≤ i) → S i = S0 i) → R_m_houseX_L6 R κ f S u → ∃ G : Nat → Int32, κ G (R 12) ∧ (∀ k : Nat, k < N → G (34 + k) = R 2) ∧ (∀ i : Nat, (i < 34 ∨ 42 ≤ i) → G i = S0 i) := by
  intro f
  induction f with
  | zero => intro S u m _ _ _ _ h; exact h.elim
  | succ f ih =>
    intro S u m hu hm hI hO h
    have e6 : (12 : Int32).toNatClampNeg = 12 := by decide
    have e2 : (2 : Int32).toNatClampNeg = 2 := by decide
    unfold R_m_houseX_L6 at h
    obtain ⟨z0, h0, h⟩ := h
    rw [e6] at h0
    subst h0
    rcases h with ⟨q, h⟩ | ⟨q, z1, h1, z2, h2, z, hz, h⟩
    · rw [le_I] at q
      obtain rfl : m = N := by omega
      exact ⟨S, h, hI, hO⟩
    · rw [le_I] at q
      have t1 := tny (addy (show (34 : Int32).toInt = (34 : Nat) by decide) hu (by omega) h1)
      rw [e2] at h2
      rw [t1] at h
      refine ih _ z (m + 1) (add1y hu (by omega) hz) (by omega) (fun k hk => ?_) (fun i hi => ?_) h
      · by_cases w : k = m
        · subst w
          rw [upd_at, h2]
        · rw [upd_ne (by omega)]; exact hI k (by omega)
      · rw [upd_ne (by omega)]; exact hO i hi

theorem qm_skip2 {κ : (Nat → Int32) → Prop} : ∀ (f : Nat) (F : Nat → Int32) (u : Int32), R_m_houseX_L2 κ f F u → ∃ G : Nat → Int32, κ G := by
  intro f
  induction f with
  | zero => intro F u h; exact h.elim
  | succ f ih =>
    intro F u h
    unfold R_m_houseX_L2 at h
    rcases h with ⟨-, h⟩ | ⟨-, z, -, h⟩
    · exact ⟨F, h⟩
    · exact ih _ _ h
theorem qm_skip3 {R : Nat → Int32} {κ : (Nat → Int32) → Prop} : ∀ (f : Nat) (F : Nat → Int32) (u : Int32), R_m_houseX_L3 R κ f F u → ∃ G : Nat → Int32, κ G := by
  intro f
  induction f with
  | zero => intro F u h; exact h.elim
  | succ f ih =>
    intro F u h
    unfold R_m_houseX_L3 at h
    obtain ⟨z0, -, h⟩ := h
    rcases h with ⟨-, h⟩ | ⟨-, z1, -, z2, -, z3, -, z4, -, z5, -, z6, -, z7, -, z, -, h⟩
    · exact ⟨F, h⟩
    · exact ih _ _ h
theorem qm_skip4 {R : Nat → Int32} {κ : (Nat → Int32) → Prop} : ∀ (f : Nat) (F : Nat → Int32) (u : Int32), R_m_houseX_L4 R κ f F u → ∃ G : Nat → Int32, κ G := by
  intro f
  induction f with
  | zero => intro F u h; exact h.elim
  | succ f ih =>
    intro F u h
    unfold R_m_houseX_L4 at h
    obtain ⟨z0, -, h⟩ := h
    rcases h with ⟨-, h⟩ | ⟨-, z1, -, z2, -, z3, -, z4, -, z5, -, z, -, h⟩
    · exact ⟨F, h⟩
    · exact ih _ _ h
theorem qm_skip5 {R : Nat → Int32} {κ : (Nat → Int32) → Prop} : ∀ (f : Nat) (F : Nat → Int32) (u : Int32), R_m_houseX_L5 R κ f F u → ∃ G : Nat → Int32, κ G := by
  intro f
  induction f with
  | zero => intro F u h; exact h.elim
  | succ f ih =>
    intro F u h
    unfold R_m_houseX_L5 at h
    obtain ⟨z0, -, h⟩ := h
    rcases h with ⟨-, h⟩ | ⟨-, z1, -, z2, -, z3, -, z4, -, z5, -, z, -, h⟩
    · exact ⟨F, h⟩
    · exact ih _ _ h
theorem qm_skip6 {R : Nat → Int32} {κ : (Nat → Int32) → Int32 → Prop} : ∀ (f : Nat) (F : Nat → Int32) (u : Int32), R_m_houseX_L6 R κ f F u → ∃ G : Nat → Int32, κ G (R 12) := by
  intro f
  induction f with
  | zero => intro F u h; exact h.elim
  | succ f ih =>
    intro F u h
    unfold R_m_houseX_L6 at h
    obtain ⟨z0, e0, h⟩ := h
    rcases h with ⟨-, h⟩ | ⟨-, z1, -, z2, -, z, -, h⟩
    · subst e0; exact ⟨F, h⟩
    · exact ih _ _ h
theorem qm_copy0 {R G3 : Nat → Int32} : ∀ (f : Nat) (F : Nat → Int32) (u : Int32) (m : Nat), u.toInt = m → m ≤ 311 → (∀ i : Nat, i < m → F i = R i) → R_m_copyRX_L0 R (fun (uf_1 : Nat → Int32) => G3 = uf_1) f F u → ∀ i : Nat, i < 311 → G3 i = R i := by
  intro f
  induction f with
  | zero => intro F u m _ _ _ h; exact h.elim
  | succ f ih =>
    intro F u m hu hm hF h
    unfold R_m_copyRX_L0 at h
    have e : (311 : Int32).toInt = 311 := by decide
    rcases h with ⟨q, h⟩ | ⟨q, h⟩
    · rw [le_I, e] at q
      intro i hi
      rw [h]; exact hF i (by omega)
    · rw [le_I, e] at q
      obtain ⟨z1, h1, z2, h2, z, hz, h⟩ := h
      rw [ofI1] at hz
      have ez := inc1 (u := u) (z := z) (a := 0) (b := 900) ⟨by omega, by omega⟩ (by omega) (by omega) hz.symm
      have e1 : z1 = u := by rw [h1]; exact Int32.toInt_inj.mp (by rw [addI (by rw [zI]; omega) (by rw [zI]; omega), zI]; omega)
      have en : u.toNatClampNeg = m := by have := Int32.toNat_toInt u; omega
      refine ih _ z (m + 1) (by omega) (by omega) ?_ h
      intro i hi
      rw [h2, e1, en]
      by_cases w : i = m
      · rw [w, upd_at]
      · rw [upd_ne w]; exact hF i (by omega)
theorem qm_copy {R D G3 : Nat → Int32} (h : R_m_copyRX R D G3) : ∀ i : Nat, i < 311 → G3 i = R i := by
  unfold R_m_copyRX at h
  obtain ⟨f, h⟩ := h
  exact qm_copy0 f D 0 0 (by decide) (by omega) (fun i hi => by omega) h
theorem qm_house {n m_taped m_size m_at m_end m_token m_whole m_nameSize m_fault m_place m_failed m_hasHouse m_undos m_images m_at2 m_end2 m_failed2 m_fault2 m_hasHouse2 m_images2 m_nameSize2 m_place2 m_size2 m_taped2 m_thrown2 m_token2 m_trouble2 m_undos2 m_whole2 r : Int32} {T d_letters d_r d_fresh d_st d_fresh2 d_letters2 d_r2 d_st2 : Nat → Int32} (hn : IV m_taped 0 900) (h : R_m_houseX n m_taped m_size m_at m_end m_token m_whole m_nameSize m_fault m_place m_failed m_hasHouse m_undos m_images T d_letters d_r d_fresh d_st m_at2 m_end2 m_failed2 m_fault2 d_fresh2 m_hasHouse2 m_images2 d_letters2 m_nameSize2 m_place2 d_r2 m_size2 d_st2 m_taped2 m_thrown2 m_token2 m_trouble2 m_undos2 m_whole2 r) : (¬ (0 ≤ n.toInt ∧ n.toInt ≤ m_taped.toInt) ∧ m_thrown2 = 0 ∧ m_fault2 = m_fault ∧ m_place2 = m_place ∧ m_taped2 = m_taped ∧ m_size2 = m_size ∧ m_trouble2 = 2 ∧ r = -1 ∧ m_hasHouse2 = m_hasHouse ∧ d_r2 = d_r ∧ d_st2 = d_st ∧ m_undos2 = m_undos ∧ m_images2 = m_images) ∨ ((0 ≤ n.toInt ∧ n.toInt ≤ m_taped.toInt) ∧ ∃ F0 : Nat → Int32, (∀ i : Nat, i < 311 → F0 i = 0) ∧ ∀ (k : Nat) (ρ : Rs ((Nat → Int32) × Int32)), TxR T n k F0 (rn T n 5 0) ρ → m_thrown2 = 0 ∧ m_taped2 = 0 ∧ m_size2 = n ∧ ((∃ e : Int32 × Int32, ρ = .inl e ∧ m_fault2 = e.1 ∧ m_place2 = e.2 ∧ m_trouble2 = 4 ∧ r = -1 ∧ m_hasHouse2 = m_hasHouse ∧ d_r2 = d_r ∧ d_st2 = d_st ∧ m_undos2 = m_undos ∧ m_images2 = m_images) ∨ (∃ v : (Nat → Int32) × Int32, ρ = .inr v ∧ m_fault2 = 0 ∧ m_trouble2 = 0 ∧ r = v.1 12 ∧ m_hasHouse2 = 1 ∧ (∀ i : Nat, i < 311 → d_r2 i = v.1 i) ∧ m_undos2 = 0 ∧ m_images2 = 0 ∧ (FIv v.1 → IV (v.1 12) 0 8 → StF v.1 d_st2)))) := by
  unfold R_m_houseX at h
  obtain ⟨th, tr, ⟨g1, g2⟩, r5, h5, h⟩ := h
  have hin : (r5 = 1 ∧ 0 ≤ n.toInt ∧ n.toInt ≤ m_taped.toInt) ∨ (r5 = 0 ∧ ¬ (0 ≤ n.toInt ∧ n.toInt ≤ m_taped.toInt)) := by
    simp only [R_m_inX] at h5
    rcases h5 with ⟨q, h5⟩ | ⟨q, ⟨q2, h5⟩ | ⟨q2, h5⟩⟩
    · rw [lt_I, zI] at q; exact Or.inr ⟨h5, by omega⟩
    · rw [lt_I] at q2; exact Or.inr ⟨h5, by omega⟩
    · rw [lt_I, zI] at q; rw [lt_I] at q2; exact Or.inl ⟨h5, by omega, by omega⟩
  rcases hin with ⟨q5, hi⟩ | ⟨q5, hi⟩
  case inr =>
    replace h := pf2 h q5
    obtain ⟨tr2, r2, ⟨n1, n2⟩, k_m_at2, k_m_end2, k_m_failed2, k_m_fault2, k_d_fresh2, k_m_hasHouse2, k_m_images2, k_d_letters2, k_m_nameSize2, k_m_place2, k_d_r2, k_m_size2, k_d_st2, k_m_taped2, k_m_thrown2, k_m_token2, k_m_trouble2, k_m_undos2, k_m_whole2, k_r⟩ := h
    exact Or.inl ⟨hi, by rw [k_m_thrown2, g1], k_m_fault2, k_m_place2, k_m_taped2, k_m_size2, by rw [k_m_trouble2, n1], by rw [k_r, n2], k_m_hasHouse2, k_d_r2, k_d_st2, k_m_undos2, k_m_images2⟩
  replace h := pk2 h q5
  obtain ⟨f0, h⟩ := h
  obtain ⟨F0, hF0, h⟩ := qm_zero f0 d_fresh 0 0 (by decide) (by omega) (fun i hi => by omega) h
  obtain ⟨A, E, M, N, t, w, hx, A2, E2, f2, u2, G2, M2, N2, p2, t2, w2, hr, f1, h⟩ := h
  have hn' : IV n 0 900 := ⟨hi.1, by have := hn.2; omega⟩
  obtain ⟨t1, tk⟩ := m_next_spec hn' ⟨by decide, by decide⟩ hx
  have i0 : IV (rn T n 5 0) 0 900 := ⟨by have := rn_ge (T := T) (k := 5) (u := 0) hn' (by decide) ⟨by decide, by decide⟩; rw [zI] at this; omega, (rn_ge (T := T) (k := 5) (u := 0) hn' (by decide) ⟨by decide, by decide⟩).2⟩
  have I : ∀ (i : Nat) (b : Int), i < 311 → 0 ≤ b → IV (F0 i) 0 b := fun i b h hb => by rw [hF0 i h, IV, zI]; omega
  have hFI : FIv F0 := ⟨I 6 8 (by first | decide | omega) (by first | decide | omega), I 7 4 (by first | decide | omega) (by first | decide | omega), I 8 12 (by first | decide | omega) (by first | decide | omega), I 9 8 (by first | decide | omega) (by first | decide | omega), I 10 6 (by first | decide | omega) (by first | decide | omega), I 11 4 (by first | decide | omega) (by first | decide | omega), I 13 6 (by first | decide | omega) (by first | decide | omega), I 14 6 (by first | decide | omega) (by first | decide | omega)⟩
  have ml := qm_readLine hn' hFI (a := rn T n 5 0) ⟨rfl, rfl, rfl, i0, tk⟩ (by rw [← t1]; exact hr)
  have hlast : ∀ (k : Nat) (ρ : Rs ((Nat → Int32) × Int32)), TxR T n k F0 (rn T n 5 0) ρ → m_thrown2 = 0 ∧ m_taped2 = 0 ∧ m_size2 = n ∧ ((∃ e : Int32 × Int32, ρ = .inl e ∧ m_fault2 = e.1 ∧ m_place2 = e.2 ∧ m_trouble2 = 4 ∧ r = -1 ∧ m_hasHouse2 = m_hasHouse ∧ d_r2 = d_r ∧ d_st2 = d_st ∧ m_undos2 = m_undos ∧ m_images2 = m_images) ∨ (∃ v : (Nat → Int32) × Int32, ρ = .inr v ∧ m_fault2 = 0 ∧ m_trouble2 = 0 ∧ r = v.1 12 ∧ m_hasHouse2 = 1 ∧ (∀ i : Nat, i < 311 → d_r2 i = v.1 i) ∧ m_undos2 = 0 ∧ m_images2 = 0 ∧ (FIv v.1 → IV (v.1 12) 0 8 → StF v.1 d_st2))) := by
    intro k ρ hT
    have K := qm_text hn' k F0 _ ρ hT _ _ _ _ _ _ _ _ _ _ _ ml h
    rcases K with ⟨e, A', E', N', t', w', F', L', hρ, K⟩ | ⟨v, E', N', w', pl', tk', L', K, hρ⟩
    · obtain ⟨tr2, r2, ⟨n1, n2⟩, k_m_at2, k_m_end2, k_m_failed2, k_m_fault2, k_d_fresh2, k_m_hasHouse2, k_m_images2, k_d_letters2, k_m_nameSize2, k_m_place2, k_d_r2, k_m_size2, k_d_st2, k_m_taped2, k_m_thrown2, k_m_token2, k_m_trouble2, k_m_undos2, k_m_whole2, k_r⟩ := K
      exact ⟨by rw [k_m_thrown2, g1], k_m_taped2, k_m_size2, Or.inl ⟨e, hρ, k_m_fault2, k_m_place2, by rw [k_m_trouble2, n1], by rw [k_r, n2], k_m_hasHouse2, k_d_r2, k_d_st2, k_m_undos2, k_m_images2⟩⟩
    · rcases K with ⟨q0, z15, h15, K⟩ | ⟨q0, K⟩
      case inr =>
        have hρ' : ρ = .inl (1, v.2) := by
          rcases hρ with ⟨q, -⟩ | ⟨-, q⟩
          · exact absurd q q0
          · exact q
        obtain ⟨fd2, ft2, pl2, hb, tr2, r2, ⟨n1, n2⟩, k_m_at2, k_m_end2, k_m_failed2, k_m_fault2, k_d_fresh2, k_m_hasHouse2, k_m_images2, k_d_letters2, k_m_nameSize2, k_m_place2, k_d_r2, k_m_size2, k_d_st2, k_m_taped2, k_m_thrown2, k_m_token2, k_m_trouble2, k_m_undos2, k_m_whole2, k_r⟩ := K
        obtain ⟨b1, b2, b3⟩ := qm_bad rfl hb
        exact ⟨by rw [k_m_thrown2, g1], k_m_taped2, k_m_size2, Or.inl ⟨(1, v.2), hρ', by rw [k_m_fault2, b2], by rw [k_m_place2, b3], by rw [k_m_trouble2, n1], by rw [k_r, n2], k_m_hasHouse2, k_d_r2, k_d_st2, k_m_undos2, k_m_images2⟩⟩
      have hρ' : ((v.1 12 = 0 ∨ v.1 11 = 0) ∧ ρ = .inl (6, v.2)) ∨ ((v.1 15 ≠ 0 ∧ v.1 12 ≠ 0 ∧ v.1 11 ≠ 0) ∧ ρ = .inr v) := by
        rcases hρ with ⟨-, q⟩ | ⟨q, -⟩
        · exact q
        · exact absurd q0 q
      have S : ∀ (ft2 pl2 : Int32), ft2 = 6 → pl2 = v.2 → m_fault2 = ft2 → m_place2 = pl2 → ρ = .inl (6, v.2) → m_trouble2 = 4 → r = -1 → m_hasHouse2 = m_hasHouse ∧ d_r2 = d_r ∧ d_st2 = d_st ∧ m_undos2 = m_undos ∧ m_images2 = m_images → ((∃ e : Int32 × Int32, ρ = .inl e ∧ m_fault2 = e.1 ∧ m_place2 = e.2 ∧ m_trouble2 = 4 ∧ r = -1 ∧ m_hasHouse2 = m_hasHouse ∧ d_r2 = d_r ∧ d_st2 = d_st ∧ m_undos2 = m_undos ∧ m_images2 = m_images) ∨ (∃ v : (Nat → Int32) × Int32, ρ = .inr v ∧ m_fault2 = 0 ∧ m_trouble2 = 0 ∧ r = v.1 12 ∧ m_hasHouse2 = 1 ∧ (∀ i : Nat, i < 311 → d_r2 i = v.1 i) ∧ m_undos2 = 0 ∧ m_images2 = 0 ∧ (FIv v.1 → IV (v.1 12) 0 8 → StF v.1 d_st2))) := fun ft2 pl2 a1 a2 a3 a4 a5 a6 a7 a8 => Or.inl ⟨(6, v.2), a5, by rw [a3, a1], by rw [a4, a2], a6, a7, a8⟩
      rcases K with ⟨q15, fd2, ft2, pl2, hb, tr2, r2, ⟨n1, n2⟩, k_m_at2, k_m_end2, k_m_failed2, k_m_fault2, k_d_fresh2, k_m_hasHouse2, k_m_images2, k_d_letters2, k_m_nameSize2, k_m_place2, k_d_r2, k_m_size2, k_d_st2, k_m_taped2, k_m_thrown2, k_m_token2, k_m_trouble2, k_m_undos2, k_m_whole2, k_r⟩ | ⟨q15, z12, h12, K⟩
      · obtain ⟨b1, b2, b3⟩ := qm_bad rfl hb
        have hh : ρ = .inl (6, v.2) := by
          rcases hρ' with ⟨-, q⟩ | ⟨q, -⟩
          · exact q
          · exact absurd (h15.symm.trans q15) q.1
        exact ⟨by rw [k_m_thrown2, g1], k_m_taped2, k_m_size2, S _ _ b2 b3 k_m_fault2 k_m_place2 hh (by rw [k_m_trouble2, n1]) (by rw [k_r, n2]) ⟨k_m_hasHouse2, k_d_r2, k_d_st2, k_m_undos2, k_m_images2⟩⟩
      rcases K with ⟨q12, fd2, ft2, pl2, hb, tr2, r2, ⟨n1, n2⟩, k_m_at2, k_m_end2, k_m_failed2, k_m_fault2, k_d_fresh2, k_m_hasHouse2, k_m_images2, k_d_letters2, k_m_nameSize2, k_m_place2, k_d_r2, k_m_size2, k_d_st2, k_m_taped2, k_m_thrown2, k_m_token2, k_m_trouble2, k_m_undos2, k_m_whole2, k_r⟩ | ⟨q12, z11, h11, K⟩
      · obtain ⟨b1, b2, b3⟩ := qm_bad rfl hb
        have hh : ρ = .inl (6, v.2) := by
          rcases hρ' with ⟨-, q⟩ | ⟨q, -⟩
          · exact q
          · exact absurd (h12.symm.trans q12) q.2.1
        exact ⟨by rw [k_m_thrown2, g1], k_m_taped2, k_m_size2, S _ _ b2 b3 k_m_fault2 k_m_place2 hh (by rw [k_m_trouble2, n1]) (by rw [k_r, n2]) ⟨k_m_hasHouse2, k_d_r2, k_d_st2, k_m_undos2, k_m_images2⟩⟩
      rcases K with ⟨q11, R3, hcp, f2', K⟩ | ⟨q11, fd2, ft2, pl2, hb, tr2, r2, ⟨n1, n2⟩, k_m_at2, k_m_end2, k_m_failed2, k_m_fault2, k_d_fresh2, k_m_hasHouse2, k_m_images2, k_d_letters2, k_m_nameSize2, k_m_place2, k_d_r2, k_m_size2, k_d_st2, k_m_taped2, k_m_thrown2, k_m_token2, k_m_trouble2, k_m_undos2, k_m_whole2, k_r⟩
      case inr =>
        obtain ⟨b1, b2, b3⟩ := qm_bad rfl hb
        have hh : ρ = .inl (6, v.2) := by
          rcases hρ' with ⟨-, q⟩ | ⟨q, -⟩
          · exact q
          · exact absurd (h11.symm.trans q11) q.2.2
        exact ⟨by rw [k_m_thrown2, g1], k_m_taped2, k_m_size2, S _ _ b2 b3 k_m_fault2 k_m_place2 hh (by rw [k_m_trouble2, n1]) (by rw [k_r, n2]) ⟨k_m_hasHouse2, k_d_r2, k_d_st2, k_m_undos2, k_m_images2⟩⟩
      have hh : ρ = .inr v := by
        rcases hρ' with ⟨q, -⟩ | ⟨-, q⟩
        · rcases q with q | q
          · exact absurd (h12.trans q) q12
          · exact absurd (h11.trans q) q11
        · exact q
      have cp := qm_copy hcp
      by_cases hB : FIv v.1 ∧ IV (v.1 12) 0 8
      case neg =>
        obtain ⟨S2, f3', K⟩ := qm_skip2 _ _ _ K
        obtain ⟨S3, f4', K⟩ := qm_skip3 _ _ _ K
        obtain ⟨S4, f5', K⟩ := qm_skip4 _ _ _ K
        obtain ⟨S5, f6', K⟩ := qm_skip5 _ _ _ K
        obtain ⟨S6, K⟩ := qm_skip6 _ _ _ K
        obtain ⟨k_m_at2, k_m_end2, k_m_failed2, k_m_fault2, k_d_fresh2, k_m_hasHouse2, k_m_images2, k_d_letters2, k_m_nameSize2, k_m_place2, k_d_r2, k_m_size2, k_d_st2, k_m_taped2, k_m_thrown2, k_m_token2, k_m_trouble2, k_m_undos2, k_m_whole2, k_r⟩ := K
        exact ⟨by rw [k_m_thrown2, g1], k_m_taped2, k_m_size2, Or.inr ⟨v, hh, k_m_fault2, by rw [k_m_trouble2, g2], by rw [k_r]; exact cp 12 (by first | decide | omega), k_m_hasHouse2, by rw [k_d_r2]; exact cp, k_m_undos2, k_m_images2, fun b1 b2 => absurd ⟨b1, b2⟩ hB⟩⟩
      obtain ⟨⟨i6, i7, i8, i9, i10, i11, i13, i14⟩, i12⟩ := hB
      rw [IV] at i6 i8 i10 i12
      obtain ⟨N6, hN6⟩ : ∃ a : Nat, (R3 6).toInt = a := ⟨(R3 6).toInt.toNat, by rw [cp 6 (by first | decide | omega)]; omega⟩
      obtain ⟨N8, hN8⟩ : ∃ a : Nat, (R3 8).toInt = a := ⟨(R3 8).toInt.toNat, by rw [cp 8 (by first | decide | omega)]; omega⟩
      obtain ⟨N10, hN10⟩ : ∃ a : Nat, (R3 10).toInt = a := ⟨(R3 10).toInt.toNat, by rw [cp 10 (by first | decide | omega)]; omega⟩
      obtain ⟨N12, hN12⟩ : ∃ a : Nat, (R3 12).toInt = a := ⟨(R3 12).toInt.toNat, by rw [cp 12 (by first | decide | omega)]; omega⟩
      have b6 := hN6
      have b8 := hN8
      have b10 := hN10
      have b12 := hN12
      rw [cp 6 (by first | decide | omega)] at b6
      rw [cp 8 (by first | decide | omega)] at b8
      rw [cp 10 (by first | decide | omega)] at b10
      rw [cp 12 (by first | decide | omega)] at b12
      obtain ⟨S2, ⟨f3', K⟩, w2⟩ := fill2 _ _ 0 0 (by decide) (by omega) (fun i hi => by omega) K
      obtain ⟨S3, ⟨f4', K⟩, w3, v3⟩ := fill3 (S0 := S2) hN6 (by omega) _ _ 0 0 (by decide) (by omega) (fun k hk => by omega) (fun i _ => rfl) K
      obtain ⟨S4, ⟨f5', K⟩, w4, v4⟩ := fill4 (S0 := S3) hN8 (by omega) _ _ 0 0 (by decide) (by omega) (fun k hk => by omega) (fun i _ => rfl) K
      obtain ⟨S5, ⟨f6', K⟩, w5, v5⟩ := fill5 (S0 := S4) hN10 (by omega) _ _ 0 0 (by decide) (by omega) (fun k hk => by omega) (fun i _ => rfl) K
      obtain ⟨S6, K, w6, v6⟩ := fill6 (S0 := S5) hN12 (by omega) _ _ 0 0 (by decide) (by omega) (fun k hk => by omega) (fun i _ => rfl) K
      obtain ⟨k_m_at2, k_m_end2, k_m_failed2, k_m_fault2, k_d_fresh2, k_m_hasHouse2, k_m_images2, k_d_letters2, k_m_nameSize2, k_m_place2, k_d_r2, k_m_size2, k_d_st2, k_m_taped2, k_m_thrown2, k_m_token2, k_m_trouble2, k_m_undos2, k_m_whole2, k_r⟩ := K
      refine ⟨by rw [k_m_thrown2, g1], k_m_taped2, k_m_size2, Or.inr ⟨v, hh, k_m_fault2, by rw [k_m_trouble2, g2], by rw [k_r]; exact cp 12 (by first | decide | omega), k_m_hasHouse2, by rw [k_d_r2]; exact cp, k_m_undos2, k_m_images2, fun _ _ => ?_⟩⟩
      rw [k_d_st2]
      refine ⟨fun k hk => ?_, fun k hk => ?_, fun k hk => ?_, fun k hk => ?_, ?_, ?_⟩
      · rw [v6 _ (by omega), v6 _ (by omega), v5 _ (by omega), v5 _ (by omega), v4 _ (by omega), v4 _ (by omega)]
        obtain ⟨z1, z2⟩ := w3 k (by omega)
        exact ⟨z1.trans (cp _ (by omega)), z2.trans (cp _ (by omega))⟩
      · rw [v6 _ (by omega), v5 _ (by omega)]; exact (w4 k (by omega)).trans (cp _ (by omega))
      · rw [v6 _ (by omega)]; exact (w5 k (by omega)).trans (cp _ (by omega))
      · exact (w6 k (by omega)).trans (cp _ (by omega))
      · rw [v6 _ (by omega), v5 _ (by omega), v4 _ (by omega), v3 _ (by omega)]; exact w2 _ (by omega)
      · rw [v6 _ (by omega), v5 _ (by omega), v4 _ (by omega), v3 _ (by omega)]; exact w2 _ (by omega)
  exact Or.inr ⟨hi, F0, hF0, hlast⟩
