set_option maxRecDepth 100000
set_option maxHeartbeats 4000000
theorem orI {c A B : Prop} [Decidable c] : ((c ∧ A) ∨ (¬ c ∧ B)) = (if c then A else B) := by
  by_cases h : c <;> simp [h]
theorem orN {c A B : Prop} [Decidable c] : ((¬ c ∧ A) ∨ (c ∧ B)) = (if c then B else A) := by
  by_cases h : c <;> simp [h]
theorem orE {x y : Int32} {A B : Prop} : ((x ≠ y ∧ A) ∨ (x = y ∧ B)) = (if x = y then B else A) := by
  by_cases h : x = y <;> simp [h]
theorem iteR {c : Prop} [Decidable c] {r a b : Int32} : (if c then r = a else r = b) = (r = if c then a else b) := by
  by_cases h : c <;> simp [h]
def sx (x : Int32) : Int32 := x.toInt8.toInt32
def TpR (tp T : Nat → Int32) : Prop := ∀ i : Nat, i < 900 → IV (T i) 0 255 ∧ tp i = sx (T i)
def kc (c : Int32) : Int32 := if c = -1 then 0 else if c < 97 then (if c < 48 then (if c = 32 then 5 else if c = 44 then 4 else 6) else if 57 < c then (if c = 59 then 3 else 6) else 2) else if 122 < c then 6 else 1
def kz (z : Int32) : Int32 := if z < 97 then (if z < 48 then (if z = 32 then 5 else if z = 44 then 4 else if z = 59 then 3 else 6) else if 57 < z then (if z = 32 then 5 else if z = 44 then 4 else if z = 59 then 3 else 6) else 2) else if 122 < z then (if z = 32 then 5 else if z = 44 then 4 else if z = 59 then 3 else 6) else 1
theorem kz_kc : ∀ j : Nat, j < 256 → kz (sx (Int32.ofNat j)) = kc (Int32.ofNat j) := by decide +kernel
theorem ofI {x : Int32} {n : Nat} (h : IV x 0 n) (hn : n < 2147483648) : ∃ j : Nat, j ≤ n ∧ x = Int32.ofNat j := by
  refine ⟨x.toInt.toNat, by omega, ?_⟩
  apply Int32.toInt_inj.mp
  rw [Int32.toInt_ofNat_of_lt (by omega)]
  omega
theorem kz_of {x : Int32} (h : IV x 0 255) : kz (sx x) = kc x := by
  obtain ⟨j, hj, rfl⟩ := ofI (n := 255) h (by decide)
  exact kz_kc j (by omega)
theorem x_kindAt_spec {p n r : Int32} {tp T : Nat → Int32} (h : R_x_kindAtX p n tp r) (hp : IV p 0 900) (hn : IV n 0 900) (ht : TpR tp T) : r = kc (lookF T n p) := by
  simp only [R_x_kindAtX, orI, orN, orE, exists_eq_left] at h
  have h0 : ¬ p < 0 := by rw [lt_I, zI]; omega
  rw [if_neg h0] at h
  unfold lookF
  by_cases hpn : p < n
  · have h1 : ¬ n ≤ p := by rw [le_I]; rw [lt_I] at hpn; omega
    rw [if_neg h1] at h
    have h9 : p.toInt < 900 := by rw [lt_I] at hpn; omega
    have h2 : p < 900 := by rw [lt_I]; exact h9
    rw [if_pos h2] at h
    have hi : p.toNatClampNeg < 900 := by have := tn_i hp.1; omega
    obtain ⟨hT, he⟩ := ht _ hi
    rw [he] at h
    rw [if_pos hpn, ← kz_of hT]
    simp only [iteR] at h
    exact h
  · have h1 : n ≤ p := by rw [le_I]; rw [lt_I] at hpn; omega
    rw [if_pos h1] at h
    rw [if_neg hpn]
    exact h
theorem m_look_spec {p n r : Int32} {T : Nat → Int32} (h : R_m_lookX p n T r) : r = lookF T n p := by
  simp only [R_m_lookX, orI, orN, orE, exists_eq_left] at h
  unfold lookF
  split at h
  · rename_i q
    rw [if_neg (Int32.not_lt.mpr q)]; exact h
  · rename_i q
    rw [if_pos (Int32.not_le.mp q)]; exact h

theorem kc5 {c : Int32} : kc c = 5 ↔ c = 32 := by
  constructor
  · intro h; unfold kc at h
    repeat' split at h
    all_goals first | assumption | (exact absurd h (by decide))
  · rintro rfl; decide
theorem kc0 {c : Int32} : kc c = 0 ↔ c = -1 := by
  constructor
  · intro h; unfold kc at h
    repeat' split at h
    all_goals first | assumption | (exact absurd h (by decide))
  · rintro rfl; decide
theorem kc3 {c : Int32} : kc c = 3 ↔ c = 59 := by
  constructor
  · intro h; unfold kc at h
    repeat' split at h
    all_goals first | assumption | (exact absurd h (by decide))
  · rintro rfl; decide
theorem kc4 {c : Int32} : kc c = 4 ↔ c = 44 := by
  constructor
  · intro h; unfold kc at h
    repeat' split at h
    all_goals first | assumption | (exact absurd h (by decide))
  · rintro rfl; decide
theorem n97 : (97 : Int32).toInt = 97 := by decide
theorem n122 : (122 : Int32).toInt = 122 := by decide
theorem n48 : (48 : Int32).toInt = 48 := by decide
theorem n57 : (57 : Int32).toInt = 57 := by decide
theorem nm1 : (-1 : Int32).toInt = -1 := by decide
theorem kc1 {c : Int32} : kc c = 1 ↔ IV c 97 122 := by
  constructor
  · intro h; unfold kc at h
    repeat' split at h
    all_goals first | (exact absurd h (by decide)) | skip
    rename_i q1 q2 q3
    rw [lt_I, n97] at q2
    rw [lt_I, n122] at q3
    exact ⟨by omega, by omega⟩
  · intro h
    unfold kc
    rw [if_neg (fun q => by rw [q, IV, nm1] at h; omega), if_neg (by rw [lt_I, n97]; omega), if_neg (by rw [lt_I, n122]; omega)]
theorem kc2 {c : Int32} : kc c = 2 ↔ IV c 48 57 := by
  constructor
  · intro h; unfold kc at h
    repeat' split at h
    all_goals first | (exact absurd h (by decide)) | skip
    rename_i q1 q2 q3 q4
    rw [lt_I, n48] at q3
    rw [lt_I, n57] at q4
    exact ⟨by omega, by omega⟩
  · intro h
    unfold kc
    rw [if_neg (fun q => by rw [q, IV, nm1] at h; omega), if_pos (by rw [lt_I, n97]; omega), if_neg (by rw [lt_I, n48]; omega), if_neg (by rw [lt_I, n57]; omega)]
theorem look_in {T : Nat → Int32} {n p : Int32} (h : kc (lookF T n p) ≠ 0) : p.toInt < n.toInt ∧ lookF T n p = T p.toNatClampNeg := by
  unfold lookF at h ⊢
  by_cases q : p < n
  · rw [if_pos q]; exact ⟨lt_I.mp q, rfl⟩
  · rw [if_neg q] at h; exact absurd (by decide) h
theorem inc1 {u z : Int32} {a b : Int} (hu : IV u a b) (h1 : -2147483648 ≤ a) (h2 : b ≤ 2147483646) (e : z = u + 1) : z.toInt = u.toInt + 1 := in_add e hu (show IV 1 1 1 from (by decide)) (by omega) (by omega)
theorem ofI1 : Int32.ofInt 1 = 1 := by decide
/-- the end of the run of bytes of the kind k from u on -/
def rnF (T : Nat → Int32) (n k : Int32) : Nat → Int32 → Int32
  | 0, u => u
  | f + 1, u => if kc (lookF T n u) = k then rnF T n k f (u + 1) else u
def rn (T : Nat → Int32) (n k u : Int32) : Int32 := rnF T n k (901 - u.toInt).toNat u
theorem rn_stop {T : Nat → Int32} {n k u : Int32} (h : kc (lookF T n u) ≠ k) : rn T n k u = u := by
  unfold rn
  cases (901 - u.toInt).toNat with
  | zero => rfl
  | succ f => rw [rnF, if_neg h]
theorem rn_step {T : Nat → Int32} {n k u : Int32} (hn : IV n 0 900) (hu : 0 ≤ u.toInt) (hk : k ≠ 0) (h : kc (lookF T n u) = k) : u.toInt < n.toInt ∧ rn T n k u = rn T n k (u + 1) := by
  obtain ⟨h1, -⟩ := look_in (T := T) (n := n) (p := u) (by rw [h]; exact hk)
  have e := inc1 (u := u) (z := u + 1) (a := 0) (b := 900) ⟨hu, by omega⟩ (by omega) (by omega) rfl
  refine ⟨h1, ?_⟩
  unfold rn
  rw [e, show (901 - u.toInt).toNat = (901 - (u.toInt + 1)).toNat + 1 by omega, rnF, if_pos h]
theorem rn_iv {T : Nat → Int32} {n k : Int32} (hn : IV n 0 900) (hk : k ≠ 0) : ∀ (f : Nat) (u : Int32), (900 - u.toInt).toNat = f → IV u 0 900 → u.toInt ≤ (rn T n k u).toInt ∧ (rn T n k u).toInt ≤ 900 := by
  intro f
  induction f with
  | zero =>
    intro u hf hu
    rw [rn_stop (fun q => by have := (rn_step hn hu.1 hk q).1; omega)]
    omega
  | succ f ih =>
    intro u hf hu
    by_cases q : kc (lookF T n u) = k
    · obtain ⟨h1, h2⟩ := rn_step hn hu.1 hk q
      have e := inc1 (u := u) (z := u + 1) (a := 0) (b := 900) hu (by omega) (by omega) rfl
      rw [h2]
      have := ih (u + 1) (by omega) ⟨by omega, by omega⟩
      omega
    · rw [rn_stop q]; omega
theorem rn_ge {T : Nat → Int32} {n k u : Int32} (hn : IV n 0 900) (hk : k ≠ 0) (hu : IV u 0 900) : u.toInt ≤ (rn T n k u).toInt ∧ (rn T n k u).toInt ≤ 900 := rn_iv hn hk _ u rfl hu
theorem m_skip {T : Nat → Int32} {n : Int32} {κ : Int32 → Prop} (hn : IV n 0 900) : ∀ (f : Nat) (u : Int32), IV u 0 900 → R_m_nextX_L0 n T κ f u → κ (rn T n 5 u) := by
  intro f
  induction f with
  | zero => intro u _ h; exact h.elim
  | succ f ih =>
    intro u hu h
    simp only [R_m_nextX_L0] at h
    obtain ⟨r, hr, h⟩ := h
    have e := m_look_spec hr
    rcases h with ⟨h1, h⟩ | ⟨h1, z, hz, h⟩
    · rw [rn_stop (fun q => h1 (e.trans (kc5.mp q)))]; exact h
    · have q : kc (lookF T n u) = 5 := kc5.mpr (e.symm.trans h1)
      obtain ⟨g1, g2⟩ := rn_step hn hu.1 (by decide) q
      rw [ofI1] at hz
      subst hz
      have e := inc1 (u := u) (z := u + 1) (a := 0) (b := 900) hu (by omega) (by omega) rfl
      rw [g2]
      exact ih _ ⟨by omega, by omega⟩ h
theorem x_skip {T tp : Nat → Int32} {n : Int32} {κ κ2 : Int32 → Prop} (hn : IV n 0 900) (ht : TpR tp T) : ∀ (f : Nat) (u : Int32), IV u 0 900 → R_x_nextX_L0 n tp κ κ2 f u → κ (rn T n 5 u) ∨ κ2 (rn T n 5 u) := by
  intro f
  induction f with
  | zero => intro u _ h; exact h.elim
  | succ f ih =>
    intro u hu h
    simp only [R_x_nextX_L0] at h
    rcases h with ⟨h1, h⟩ | ⟨h1, r, hr, h⟩
    · rw [rn_stop (fun q => by have := (rn_step hn hu.1 (by decide) q).1; rw [le_I] at h1; omega)]; exact Or.inl h
    · have e := x_kindAt_spec hr hu hn ht
      rcases h with ⟨h2, h⟩ | ⟨h2, z, hz, h⟩
      · rw [rn_stop (fun q => h2 (e.trans q))]; exact Or.inr h
      · obtain ⟨g1, g2⟩ := rn_step hn hu.1 (by decide) (e.symm.trans h2)
        subst hz
        have e := inc1 (u := u) (z := u + 1) (a := 0) (b := 900) hu (by omega) (by omega) rfl
        rw [g2]
        exact ih _ ⟨by omega, by omega⟩ h

/-- the value and the letters of the k bytes from a on, as the class reckons them -/
def vlF (T : Nat → Int32) (a : Nat) : Nat → Int32
  | 0 => 0
  | k + 1 => vlF T a k * 10 + (T (a + k) - 48)
def enF (T : Nat → Int32) (a : Nat) : Nat → Int64
  | 0 => 0
  | k + 1 => enF T a k * 27 + ((T (a + k) - 97) + 1).toInt64
theorem sx_lo : ∀ j : Nat, j < 128 → sx (Int32.ofNat j) = Int32.ofNat j := by decide +kernel
theorem sx_id {x : Int32} (h : IV x 0 127) : sx x = x := by
  obtain ⟨j, hj, rfl⟩ := ofI (n := 127) h (by decide)
  exact sx_lo j (by omega)
theorem tp_at {T tp : Nat → Int32} {n u k : Int32} (ht : TpR tp T) (hn : IV n 0 900) (hu : IV u 0 900) (hk : k = 1 ∨ k = 2) (h : kc (lookF T n u) = k) : tp u.toNatClampNeg = T u.toNatClampNeg := by
  obtain ⟨h1, h2⟩ := look_in (T := T) (n := n) (p := u) (by rw [h]; rcases hk with rfl | rfl <;> decide)
  have hi : u.toNatClampNeg < 900 := by have := tn_i hu.1; omega
  obtain ⟨-, he⟩ := ht _ hi
  rw [he]
  apply sx_id
  rw [← h2]
  rcases hk with rfl | rfl
  · have := kc1.mp h; exact ⟨by omega, by omega⟩
  · have := kc2.mp h; exact ⟨by omega, by omega⟩
theorem x_run1 {T tp : Nat → Int32} {n k a : Int32} {κ κ2 : Int32 → Int32 → Int64 → Prop} (hn : IV n 0 900) (ht : TpR tp T) (hk : k = 1 ∨ k = 2) (ha : 0 ≤ a.toInt) : ∀ (f : Nat) (u v : Int32) (l : Int64) (j : Nat), IV u 0 900 → u.toInt = a.toInt + j → v = vlF T a.toNatClampNeg j → l = enF T a.toNatClampNeg j → R_x_nextX_L1 n tp k κ κ2 f u v l → ∃ i : Nat, (rn T n k u).toInt = a.toInt + i ∧ (κ (rn T n k u) (vlF T a.toNatClampNeg i) (enF T a.toNatClampNeg i) ∨ κ2 (rn T n k u) (vlF T a.toNatClampNeg i) (enF T a.toNatClampNeg i)) := by
  have hk0 : k ≠ 0 := by rcases hk with rfl | rfl <;> decide
  intro f
  induction f with
  | zero => intro u v l j _ _ _ _ h; exact h.elim
  | succ f ih =>
    intro u v l j hu hj hv hl h
    simp only [R_x_nextX_L1] at h
    rcases h with ⟨h1, h⟩ | ⟨h1, r, hr, h⟩
    · rw [rn_stop (fun q => by have := (rn_step hn hu.1 hk0 q).1; rw [le_I] at h1; omega)]
      refine ⟨j, hj, Or.inl ?_⟩
      rw [← hv, ← hl]; exact h
    · have e := x_kindAt_spec hr hu hn ht
      rcases h with ⟨h2, h⟩ | ⟨h2, y1, hy1, z1, hz1, z2, hz2, z3, hz3, y2, hy2, y3, hy3, z4, hz4, z5, hz5, z6, hz6, z7, hz7, z8, hz8, h⟩
      · rw [rn_stop (fun q => h2 (e.trans q))]
        refine ⟨j, hj, Or.inr ?_⟩
        rw [← hv, ← hl]; exact h
      · have q := e.symm.trans h2
        obtain ⟨g1, g2⟩ := rn_step hn hu.1 hk0 q
        have et := tp_at ht hn hu hk q
        have eu := inc1 (u := u) (z := u + 1) (a := 0) (b := 900) hu (by omega) (by omega) rfl
        have ei : u.toNatClampNeg = a.toNatClampNeg + j := by have := tn_i hu.1; have := tn_i ha; omega
        rw [g2]
        subst hz8
        refine ih (u + 1) z7 y3 (j + 1) ⟨by omega, by omega⟩ (by omega) ?_ ?_ h
        · rw [hz7, hz4, hz6, hz5, et, ei, hv]; rfl
        · rw [hy3, hy1, hy2, hz3, hz2, hz1, et, ei, hl]; rfl
theorem x_run2 {T tp : Nat → Int32} {n k a : Int32} {κ κ2 : Int32 → Int32 → Int64 → Prop} (hn : IV n 0 900) (ht : TpR tp T) (hk : k = 1 ∨ k = 2) (ha : 0 ≤ a.toInt) : ∀ (f : Nat) (u v : Int32) (l : Int64) (j : Nat), IV u 0 900 → u.toInt = a.toInt + j → v = vlF T a.toNatClampNeg j → l = enF T a.toNatClampNeg j → R_x_nextX_L2 n tp k κ κ2 f u v l → ∃ i : Nat, (rn T n k u).toInt = a.toInt + i ∧ (κ (rn T n k u) (vlF T a.toNatClampNeg i) (enF T a.toNatClampNeg i) ∨ κ2 (rn T n k u) (vlF T a.toNatClampNeg i) (enF T a.toNatClampNeg i)) := by
  have hk0 : k ≠ 0 := by rcases hk with rfl | rfl <;> decide
  intro f
  induction f with
  | zero => intro u v l j _ _ _ _ h; exact h.elim
  | succ f ih =>
    intro u v l j hu hj hv hl h
    simp only [R_x_nextX_L2] at h
    rcases h with ⟨h1, h⟩ | ⟨h1, r, hr, h⟩
    · rw [rn_stop (fun q => by have := (rn_step hn hu.1 hk0 q).1; rw [le_I] at h1; omega)]
      refine ⟨j, hj, Or.inl ?_⟩
      rw [← hv, ← hl]; exact h
    · have e := x_kindAt_spec hr hu hn ht
      rcases h with ⟨h2, h⟩ | ⟨h2, y1, hy1, z1, hz1, z2, hz2, z3, hz3, y2, hy2, y3, hy3, z4, hz4, z5, hz5, z6, hz6, z7, hz7, z8, hz8, h⟩
      · rw [rn_stop (fun q => h2 (e.trans q))]
        refine ⟨j, hj, Or.inr ?_⟩
        rw [← hv, ← hl]; exact h
      · have q := e.symm.trans h2
        obtain ⟨g1, g2⟩ := rn_step hn hu.1 hk0 q
        have et := tp_at ht hn hu hk q
        have eu := inc1 (u := u) (z := u + 1) (a := 0) (b := 900) hu (by omega) (by omega) rfl
        have ei : u.toNatClampNeg = a.toNatClampNeg + j := by have := tn_i hu.1; have := tn_i ha; omega
        rw [g2]
        subst hz8
        refine ih (u + 1) z7 y3 (j + 1) ⟨by omega, by omega⟩ (by omega) ?_ ?_ h
        · rw [hz7, hz4, hz6, hz5, et, ei, hv]; rfl
        · rw [hy3, hy1, hy2, hz3, hz2, hz1, et, ei, hl]; rfl
theorem x_run3 {T tp : Nat → Int32} {n k a : Int32} {κ κ2 : Int32 → Int32 → Int64 → Prop} (hn : IV n 0 900) (ht : TpR tp T) (hk : k = 1 ∨ k = 2) (ha : 0 ≤ a.toInt) : ∀ (f : Nat) (u v : Int32) (l : Int64) (j : Nat), IV u 0 900 → u.toInt = a.toInt + j → v = vlF T a.toNatClampNeg j → l = enF T a.toNatClampNeg j → R_x_nextX_L3 n tp k κ κ2 f u v l → ∃ i : Nat, (rn T n k u).toInt = a.toInt + i ∧ (κ (rn T n k u) (vlF T a.toNatClampNeg i) (enF T a.toNatClampNeg i) ∨ κ2 (rn T n k u) (vlF T a.toNatClampNeg i) (enF T a.toNatClampNeg i)) := by
  have hk0 : k ≠ 0 := by rcases hk with rfl | rfl <;> decide
  intro f
  induction f with
  | zero => intro u v l j _ _ _ _ h; exact h.elim
  | succ f ih =>
    intro u v l j hu hj hv hl h
    simp only [R_x_nextX_L3] at h
    rcases h with ⟨h1, h⟩ | ⟨h1, r, hr, h⟩
    · rw [rn_stop (fun q => by have := (rn_step hn hu.1 hk0 q).1; rw [le_I] at h1; omega)]
      refine ⟨j, hj, Or.inl ?_⟩
      rw [← hv, ← hl]; exact h
    · have e := x_kindAt_spec hr hu hn ht
      rcases h with ⟨h2, h⟩ | ⟨h2, y1, hy1, z1, hz1, z2, hz2, z3, hz3, y2, hy2, y3, hy3, z4, hz4, z5, hz5, z6, hz6, z7, hz7, z8, hz8, h⟩
      · rw [rn_stop (fun q => h2 (e.trans q))]
        refine ⟨j, hj, Or.inr ?_⟩
        rw [← hv, ← hl]; exact h
      · have q := e.symm.trans h2
        obtain ⟨g1, g2⟩ := rn_step hn hu.1 hk0 q
        have et := tp_at ht hn hu hk q
        have eu := inc1 (u := u) (z := u + 1) (a := 0) (b := 900) hu (by omega) (by omega) rfl
        have ei : u.toNatClampNeg = a.toNatClampNeg + j := by have := tn_i hu.1; have := tn_i ha; omega
        rw [g2]
        subst hz8
        refine ih (u + 1) z7 y3 (j + 1) ⟨by omega, by omega⟩ (by omega) ?_ ?_ h
        · rw [hz7, hz4, hz6, hz5, et, ei, hv]; rfl
        · rw [hy3, hy1, hy2, hz3, hz2, hz1, et, ei, hl]; rfl
theorem x_run4 {T tp : Nat → Int32} {n k a : Int32} {κ κ2 : Int32 → Int32 → Int64 → Prop} (hn : IV n 0 900) (ht : TpR tp T) (hk : k = 1 ∨ k = 2) (ha : 0 ≤ a.toInt) : ∀ (f : Nat) (u v : Int32) (l : Int64) (j : Nat), IV u 0 900 → u.toInt = a.toInt + j → v = vlF T a.toNatClampNeg j → l = enF T a.toNatClampNeg j → R_x_nextX_L4 n tp k κ κ2 f u v l → ∃ i : Nat, (rn T n k u).toInt = a.toInt + i ∧ (κ (rn T n k u) (vlF T a.toNatClampNeg i) (enF T a.toNatClampNeg i) ∨ κ2 (rn T n k u) (vlF T a.toNatClampNeg i) (enF T a.toNatClampNeg i)) := by
  have hk0 : k ≠ 0 := by rcases hk with rfl | rfl <;> decide
  intro f
  induction f with
  | zero => intro u v l j _ _ _ _ h; exact h.elim
  | succ f ih =>
    intro u v l j hu hj hv hl h
    simp only [R_x_nextX_L4] at h
    rcases h with ⟨h1, h⟩ | ⟨h1, r, hr, h⟩
    · rw [rn_stop (fun q => by have := (rn_step hn hu.1 hk0 q).1; rw [le_I] at h1; omega)]
      refine ⟨j, hj, Or.inl ?_⟩
      rw [← hv, ← hl]; exact h
    · have e := x_kindAt_spec hr hu hn ht
      rcases h with ⟨h2, h⟩ | ⟨h2, y1, hy1, z1, hz1, z2, hz2, z3, hz3, y2, hy2, y3, hy3, z4, hz4, z5, hz5, z6, hz6, z7, hz7, z8, hz8, h⟩
      · rw [rn_stop (fun q => h2 (e.trans q))]
        refine ⟨j, hj, Or.inr ?_⟩
        rw [← hv, ← hl]; exact h
      · have q := e.symm.trans h2
        obtain ⟨g1, g2⟩ := rn_step hn hu.1 hk0 q
        have et := tp_at ht hn hu hk q
        have eu := inc1 (u := u) (z := u + 1) (a := 0) (b := 900) hu (by omega) (by omega) rfl
        have ei : u.toNatClampNeg = a.toNatClampNeg + j := by have := tn_i hu.1; have := tn_i ha; omega
        rw [g2]
        subst hz8
        refine ih (u + 1) z7 y3 (j + 1) ⟨by omega, by omega⟩ (by omega) ?_ ?_ h
        · rw [hz7, hz4, hz6, hz5, et, ei, hv]; rfl
        · rw [hy3, hy1, hy2, hz3, hz2, hz1, et, ei, hl]; rfl
theorem m_small {c r : Int32} (h : R_m_isSmallX c r) : (r = 0 ∧ kc c ≠ 1) ∨ (r = 1 ∧ kc c = 1) := by
  simp only [R_m_isSmallX] at h
  rcases h with ⟨h1, h⟩ | ⟨h1, ⟨h2, h⟩ | ⟨h2, h⟩⟩
  · exact Or.inl ⟨h, fun q => by have := kc1.mp q; rw [lt_I, n97] at h1; omega⟩
  · exact Or.inl ⟨h, fun q => by have := kc1.mp q; rw [lt_I, n122] at h2; omega⟩
  · exact Or.inr ⟨h, kc1.mpr ⟨by rw [lt_I, n97] at h1; omega, by rw [lt_I, n122] at h2; omega⟩⟩
theorem m_digit {c r : Int32} (h : R_m_isDigitX c r) : (r = 0 ∧ kc c ≠ 2) ∨ (r = 1 ∧ kc c = 2) := by
  simp only [R_m_isDigitX] at h
  rcases h with ⟨h1, h⟩ | ⟨h1, ⟨h2, h⟩ | ⟨h2, h⟩⟩
  · exact Or.inl ⟨h, fun q => by have := kc2.mp q; rw [lt_I, n48] at h1; omega⟩
  · exact Or.inl ⟨h, fun q => by have := kc2.mp q; rw [lt_I, n57] at h2; omega⟩
  · exact Or.inr ⟨h, kc2.mpr ⟨by rw [lt_I, n48] at h1; omega, by rw [lt_I, n57] at h2; omega⟩⟩

def tkF (T : Nat → Int32) (n a : Int32) : Int32 := if kc (lookF T n a) = 1 then (if (rn T n 1 a).toInt - a.toInt ≤ 8 then 1 else 6) else if kc (lookF T n a) = 2 then (if (rn T n 2 a).toInt - a.toInt ≤ 4 then 2 else 6) else kc (lookF T n a)
def edF (T : Nat → Int32) (n a : Int32) : Int32 := if kc (lookF T n a) = 1 then rn T n 1 a else if kc (lookF T n a) = 2 then rn T n 2 a else if kc (lookF T n a) = 0 then a else a + 1
def lnF (T : Nat → Int32) (n a : Int32) : Nat := ((edF T n a).toInt - a.toInt).toNat
def tmF (k : Int32) : Int32 := if k = 0 then 0 else if k = 1 then 2 else if k = 2 then 3 else if k = 3 then 59 else if k = 4 then 44 else 1
def TokX (T : Nat → Int32) (n a kd po va : Int32) (le : Int64) : Prop := kd = tkF T n a ∧ po = edF T n a ∧ (tkF T n a = 1 → le = enF T a.toNatClampNeg (lnF T n a)) ∧ (tkF T n a = 2 → va = vlF T a.toNatClampNeg (lnF T n a))
def TokM (T : Nat → Int32) (n a en tk wh ns : Int32) (L : Nat → Int32) : Prop := en = edF T n a ∧ tk = tmF (tkF T n a) ∧ (tkF T n a = 1 → ns.toInt = lnF T n a ∧ ∀ k : Nat, k < lnF T n a → L k = T (a.toNatClampNeg + k)) ∧ (tkF T n a = 2 → wh = vlF T a.toNatClampNeg (lnF T n a))
theorem k10 {w c : Int32} : (10 : Int32) * w + c - 48 = w * 10 + (c - 48) := by
  rw [Int32.mul_comm, Int32.sub_eq_add_neg, Int32.sub_eq_add_neg, Int32.add_assoc]
theorem m_runD {T : Nat → Int32} {n a : Int32} {κ : Int32 → Int32 → Int32 → Prop} (hn : IV n 0 900) (ha : 0 ≤ a.toInt) : ∀ (f : Nat) (u c w : Int32) (j : Nat), IV u 0 900 → u.toInt = a.toInt + j → c.toInt = j → (j ≤ 4 → w = vlF T a.toNatClampNeg j) → R_m_nextX_L1 n T κ f u c w → ∃ (i : Nat) (c2 w2 : Int32), (rn T n 2 u).toInt = a.toInt + i ∧ c2.toInt = i ∧ (i ≤ 4 → w2 = vlF T a.toNatClampNeg i) ∧ κ c2 (rn T n 2 u) w2 := by
  intro f
  induction f with
  | zero => intro u c w j _ _ _ _ h; exact h.elim
  | succ f ih =>
    intro u c w j hu hj hc hw h
    simp only [R_m_nextX_L1] at h
    obtain ⟨r, hr, r2, hr2, h⟩ := h
    have e := m_look_spec hr
    subst e
    rcases h with ⟨h1, h⟩ | ⟨h1, h⟩
    · have q : kc (lookF T n u) ≠ 2 := by
        rcases m_digit hr2 with ⟨-, q⟩ | ⟨q, -⟩
        · exact q
        · rw [q] at h1; exact absurd h1 (by decide)
      rw [rn_stop q]
      exact ⟨j, c, w, hj, hc, hw, h⟩
    · have q : kc (lookF T n u) = 2 := by
        rcases m_digit hr2 with ⟨q, -⟩ | ⟨-, q⟩
        · exact absurd q h1
        · exact q
      obtain ⟨g1, g2⟩ := rn_step hn hu.1 (by decide) q
      have eu := inc1 (u := u) (z := u + 1) (a := 0) (b := 900) hu (by omega) (by omega) rfl
      have ec := inc1 (u := c) (z := c + 1) (a := 0) (b := 900) ⟨by omega, by omega⟩ (by omega) (by omega) rfl
      have ei : u.toNatClampNeg = a.toNatClampNeg + j := by have := tn_i hu.1; have := tn_i ha; omega
      have n4 : (4 : Int32).toInt = 4 := by decide
      rw [g2]
      rw [ofI1] at h
      rcases h with ⟨h2, z1, hz1, z2, hz2, h⟩ | ⟨h2, z1, hz1, r3, hr3, z2, hz2, z3, hz3, z4, hz4, z5, hz5, h⟩
      · subst hz1 hz2
        rw [le_I, n4] at h2
        exact ih (u + 1) (c + 1) w (j + 1) ⟨by omega, by omega⟩ (by omega) (by omega) (fun q => by omega) h
      · subst hz4 hz5
        rw [le_I, n4] at h2
        refine ih (u + 1) (c + 1) z3 (j + 1) ⟨by omega, by omega⟩ (by omega) (by omega) (fun _ => ?_) h
        rw [hz3, hz2, hz1, m_look_spec hr3, hw (by omega), k10, (look_in (by rw [q]; decide)).2, ei]
        rfl
theorem m_runL {T : Nat → Int32} {n a : Int32} {κ : Int32 → Int32 → (Nat → Int32) → Prop} (hn : IV n 0 900) (ha : 0 ≤ a.toInt) : ∀ (f : Nat) (L : Nat → Int32) (u c : Int32) (j : Nat), IV u 0 900 → u.toInt = a.toInt + j → c.toInt = j → (∀ k : Nat, k < j → k < 8 → L k = T (a.toNatClampNeg + k)) → R_m_nextX_L2 n T κ f L u c → ∃ (i : Nat) (c2 : Int32) (L2 : Nat → Int32), (rn T n 1 u).toInt = a.toInt + i ∧ c2.toInt = i ∧ (∀ k : Nat, k < i → k < 8 → L2 k = T (a.toNatClampNeg + k)) ∧ κ c2 (rn T n 1 u) L2 := by
  intro f
  induction f with
  | zero => intro L u c j _ _ _ _ h; exact h.elim
  | succ f ih =>
    intro L u c j hu hj hc hw h
    simp only [R_m_nextX_L2] at h
    obtain ⟨r, hr, r2, hr2, h⟩ := h
    have e := m_look_spec hr
    subst e
    rcases h with ⟨h1, h⟩ | ⟨h1, h⟩
    · have q : kc (lookF T n u) ≠ 1 := by
        rcases m_small hr2 with ⟨-, q⟩ | ⟨q, -⟩
        · exact q
        · rw [q] at h1; exact absurd h1 (by decide)
      rw [rn_stop q]
      exact ⟨j, c, L, hj, hc, hw, h⟩
    · have q : kc (lookF T n u) = 1 := by
        rcases m_small hr2 with ⟨q, -⟩ | ⟨-, q⟩
        · exact absurd q h1
        · exact q
      obtain ⟨g1, g2⟩ := rn_step hn hu.1 (by decide) q
      have eu := inc1 (u := u) (z := u + 1) (a := 0) (b := 900) hu (by omega) (by omega) rfl
      have ec := inc1 (u := c) (z := c + 1) (a := 0) (b := 900) ⟨by omega, by omega⟩ (by omega) (by omega) rfl
      have ei : u.toNatClampNeg = a.toNatClampNeg + j := by have := tn_i hu.1; have := tn_i ha; omega
      have n8 : (8 : Int32).toInt = 8 := by decide
      rw [g2]
      rw [ofI1] at h
      rcases h with ⟨h2, z1, hz1, z2, hz2, h⟩ | ⟨h2, r3, hr3, z1, hz1, z2, hz2, h⟩
      · subst hz1 hz2
        rw [le_I, n8] at h2
        exact ih L (u + 1) (c + 1) (j + 1) ⟨by omega, by omega⟩ (by omega) (by omega) (fun k k1 k2 => hw k (by omega) k2) h
      · subst hz1 hz2
        rw [le_I, n8] at h2
        refine ih _ (u + 1) (c + 1) (j + 1) ⟨by omega, by omega⟩ (by omega) (by omega) (fun k k1 k2 => ?_) h
        have ej : c.toNatClampNeg = j := by have := tn_i (z := c) (by omega); omega
        unfold upd
        rw [ej]
        by_cases qk : k = j
        · subst qk
          simp only [if_true]
          rw [m_look_spec hr3, (look_in (by rw [q]; decide)).2, ei]
        · rw [if_neg qk]; exact hw k (by omega) k2

theorem ed1 {T : Nat → Int32} {n a : Int32} (h : kc (lookF T n a) = 1) : edF T n a = rn T n 1 a := by unfold edF; rw [if_pos h]
theorem ed2 {T : Nat → Int32} {n a : Int32} (h : kc (lookF T n a) = 2) : edF T n a = rn T n 2 a := by unfold edF; rw [if_neg (by rw [h]; decide), if_pos h]
theorem ed0 {T : Nat → Int32} {n a : Int32} (h : kc (lookF T n a) = 0) : edF T n a = a := by unfold edF; rw [if_neg (by rw [h]; decide), if_neg (by rw [h]; decide), if_pos h]
theorem edo {T : Nat → Int32} {n a : Int32} (h1 : kc (lookF T n a) ≠ 1) (h2 : kc (lookF T n a) ≠ 2) (h0 : kc (lookF T n a) ≠ 0) : edF T n a = a + 1 := by unfold edF; rw [if_neg h1, if_neg h2, if_neg h0]
theorem tko {T : Nat → Int32} {n a : Int32} (h1 : kc (lookF T n a) ≠ 1) (h2 : kc (lookF T n a) ≠ 2) : tkF T n a = kc (lookF T n a) := by unfold tkF; rw [if_neg h1, if_neg h2]
theorem tk1 {T : Nat → Int32} {n a : Int32} {i : Nat} (h : kc (lookF T n a) = 1) (hi : (rn T n 1 a).toInt = a.toInt + i) : tkF T n a = if i ≤ 8 then 1 else 6 := by
  unfold tkF
  rw [if_pos h, hi]
  by_cases q : i ≤ 8
  · rw [if_pos (by omega), if_pos q]
  · rw [if_neg (by omega), if_neg q]
theorem tk2 {T : Nat → Int32} {n a : Int32} {i : Nat} (h : kc (lookF T n a) = 2) (hi : (rn T n 2 a).toInt = a.toInt + i) : tkF T n a = if i ≤ 4 then 2 else 6 := by
  unfold tkF
  rw [if_neg (by rw [h]; decide), if_pos h, hi]
  by_cases q : i ≤ 4
  · rw [if_pos (by omega), if_pos q]
  · rw [if_neg (by omega), if_neg q]
theorem ln1 {T : Nat → Int32} {n a : Int32} {i : Nat} (h : kc (lookF T n a) = 1) (hi : (rn T n 1 a).toInt = a.toInt + i) : lnF T n a = i := by unfold lnF; rw [ed1 h, hi]; omega
theorem ln2 {T : Nat → Int32} {n a : Int32} {i : Nat} (h : kc (lookF T n a) = 2) (hi : (rn T n 2 a).toInt = a.toInt + i) : lnF T n a = i := by unfold lnF; rw [ed2 h, hi]; omega
theorem tx_word {T : Nat → Int32} {n a kd po va : Int32} {le : Int64} {i : Nat} (h : kc (lookF T n a) = 1) (hi : (rn T n 1 a).toInt = a.toInt + i) (hp : po = rn T n 1 a) (hl : le = enF T a.toNatClampNeg i) (hk : kd = if i ≤ 8 then 1 else 6) : TokX T n a kd po va le := by
  refine ⟨by rw [hk, tk1 h hi], by rw [hp, ed1 h], fun _ => by rw [hl, ln1 h hi], fun q => ?_⟩
  rw [tk1 h hi] at q
  split at q <;> exact absurd q (by decide)
theorem tx_dig {T : Nat → Int32} {n a kd po va : Int32} {le : Int64} {i : Nat} (h : kc (lookF T n a) = 2) (hi : (rn T n 2 a).toInt = a.toInt + i) (hp : po = rn T n 2 a) (hv : va = vlF T a.toNatClampNeg i) (hk : kd = if i ≤ 4 then 2 else 6) : TokX T n a kd po va le := by
  refine ⟨by rw [hk, tk2 h hi], by rw [hp, ed2 h], fun q => ?_, fun _ => by rw [hv, ln2 h hi]⟩
  rw [tk2 h hi] at q
  split at q <;> exact absurd q (by decide)
theorem tx_one {T : Nat → Int32} {n a po va : Int32} {le : Int64} (h1 : kc (lookF T n a) ≠ 1) (h2 : kc (lookF T n a) ≠ 2) (hp : po = edF T n a) : TokX T n a (kc (lookF T n a)) po va le :=
  ⟨(tko h1 h2).symm, hp, fun q => absurd ((tko h1 h2).symm.trans q) h1, fun q => absurd ((tko h1 h2).symm.trans q) h2⟩
theorem sub_le {e a z : Int32} {i : Nat} {m : Int32} {M : Nat} (hm : m.toInt = M) (ha : IV a 0 900) (he : IV e 0 900) (hi : e.toInt = a.toInt + i) (hz : z = e - a) : z ≤ m ↔ i ≤ M := by
  have := in_sub hz he ha (by decide) (by decide)
  rw [le_I, this, hm]
  omega
theorem n8 : (8 : Int32).toInt = (8 : Nat) := by decide
theorem n4 : (4 : Int32).toInt = (4 : Nat) := by decide
theorem rn_endF {T : Nat → Int32} {n k : Int32} (hn : IV n 0 900) (hk : k ≠ 0) : ∀ (f : Nat) (u : Int32), (900 - u.toInt).toNat = f → IV u 0 900 → kc (lookF T n (rn T n k u)) ≠ k := by
  intro f
  induction f with
  | zero =>
    intro u hf hu
    have q : kc (lookF T n u) ≠ k := fun q => by have := (rn_step hn hu.1 hk q).1; omega
    rw [rn_stop q]; exact q
  | succ f ih =>
    intro u hf hu
    by_cases q : kc (lookF T n u) = k
    · obtain ⟨h1, h2⟩ := rn_step hn hu.1 hk q
      have e := inc1 (u := u) (z := u + 1) (a := 0) (b := 900) hu (by omega) (by omega) rfl
      rw [h2]
      exact ih (u + 1) (by omega) ⟨by omega, by omega⟩
    · rw [rn_stop q]; exact q
theorem rn_end {T : Nat → Int32} {n u : Int32} (hn : IV n 0 900) (hu : IV u 0 900) : kc (lookF T n (rn T n 5 u)) ≠ 5 := rn_endF hn (by decide) _ u rfl hu
theorem x_next_spec {T tp : Nat → Int32} {n po kd sta po2 va : Int32} {le : Int64} (hn : IV n 0 900) (ht : TpR tp T) (hp : IV po 0 900) (h : R_x_nextX n po tp kd sta po2 va le) : sta = rn T n 5 po ∧ TokX T n (rn T n 5 po) kd po2 va le := by
  simp only [R_x_nextX] at h
  obtain ⟨f, h⟩ := h
  have hb := rn_ge (T := T) (k := 5) hn (by decide) hp
  have ha : IV (rn T n 5 po) 0 900 := ⟨by omega, hb.2⟩
  have hz := x_skip hn ht f po hp h
  clear h
  revert hz ha
  generalize rn T n 5 po = a
  intro ha hz
  rcases hz with hz | hz
  · obtain ⟨r, hr, h⟩ := hz
    have e := x_kindAt_spec hr ha hn ht
    have b1 := rn_ge (T := T) (k := 1) hn (by decide) ha
    have b2 := rn_ge (T := T) (k := 2) hn (by decide) ha
    rcases h with ⟨h1, m, h⟩ | ⟨h1, ⟨h2, h⟩ | ⟨h2, m, h⟩⟩
    · have q := e.symm.trans h1
      rw [h1] at h
      obtain ⟨i, hi, h⟩ := x_run1 hn ht (Or.inl rfl) ha.1 m a 0 0 0 ha (by omega) rfl rfl h
      have fin : ∀ z : Int32, z = rn T n 1 a - a → ((z ≤ 8 ∧ kd = 1 ∧ sta = a ∧ po2 = rn T n 1 a ∧ va = vlF T a.toNatClampNeg i ∧ le = enF T a.toNatClampNeg i) ∨ (¬ z ≤ 8 ∧ kd = 6 ∧ sta = a ∧ po2 = rn T n 1 a ∧ va = vlF T a.toNatClampNeg i ∧ le = enF T a.toNatClampNeg i)) → sta = a ∧ TokX T n a kd po2 va le := by
        intro z hz h
        have s := sub_le n8 ha (e := rn T n 1 a) ⟨by omega, b1.2⟩ hi hz
        rcases h with ⟨h3, k1, k2, k3, k4, k5⟩ | ⟨h3, k1, k2, k3, k4, k5⟩
        · exact ⟨k2, tx_word q hi k3 k5 (by rw [k1, if_pos (s.mp h3)])⟩
        · exact ⟨k2, tx_word q hi k3 k5 (by rw [k1, if_neg (fun w => h3 (s.mpr w))])⟩
      rcases h with ⟨z, hz, h⟩ | ⟨z, hz, h⟩ <;> exact fin z hz h
    · have q1 : kc (lookF T n a) ≠ 1 := fun w => h1 (e.trans w)
      have q2 : kc (lookF T n a) ≠ 2 := fun w => h2 (e.trans w)
      rcases h with ⟨h3, z, hz, h⟩ | ⟨h3, z, hz, z2, hz2, h⟩
      · have s : z ≤ 4 := by rw [hz, Int32.sub_self]; decide
        rcases h with ⟨h4, k1, k2, k3, k4, k5⟩ | ⟨h4, -⟩
        · refine ⟨k2, ?_⟩
          rw [k1, e]
          exact tx_one q1 q2 (by rw [k3, ed0 (e.symm.trans h3)])
        · exact absurd s h4
      · have q0 : kc (lookF T n a) ≠ 0 := fun w => h3 (e.trans w)
        have g1 := (look_in q0).1
        have eu := inc1 (u := a) (z := z) (a := 0) (b := 900) ha (by omega) (by omega) hz
        have s : z2 ≤ 4 := by
          rw [sub_le (i := 1) n4 ha (e := z) ⟨by omega, by omega⟩ (by omega) hz2]; decide
        rcases h with ⟨h4, h⟩ | ⟨h4, -⟩
        · rcases h with ⟨h5, k1, k2, k3, k4, k5⟩ | ⟨h5, -⟩
          · refine ⟨k2, ?_⟩
            rw [k1, e]
            exact tx_one q1 q2 (by rw [k3, hz, edo q1 q2 q0])
          · exact absurd s h5
        · exact absurd h4 h1
    · have q := e.symm.trans h2
      rw [h2] at h
      obtain ⟨i, hi, h⟩ := x_run2 hn ht (Or.inr rfl) ha.1 m a 0 0 0 ha (by omega) rfl rfl h
      have fin : ∀ z : Int32, z = rn T n 2 a - a → ((z ≤ 4 ∧ kd = 2 ∧ sta = a ∧ po2 = rn T n 2 a ∧ va = vlF T a.toNatClampNeg i ∧ le = enF T a.toNatClampNeg i) ∨ (¬ z ≤ 4 ∧ kd = 6 ∧ sta = a ∧ po2 = rn T n 2 a ∧ va = vlF T a.toNatClampNeg i ∧ le = enF T a.toNatClampNeg i)) → sta = a ∧ TokX T n a kd po2 va le := by
        intro z hz h
        have s := sub_le n4 ha (e := rn T n 2 a) ⟨by omega, b2.2⟩ hi hz
        rcases h with ⟨h3, k1, k2, k3, k4, k5⟩ | ⟨h3, k1, k2, k3, k4, k5⟩
        · exact ⟨k2, tx_dig q hi k3 k4 (by rw [k1, if_pos (s.mp h3)])⟩
        · exact ⟨k2, tx_dig q hi k3 k4 (by rw [k1, if_neg (fun w => h3 (s.mpr w))])⟩
      rcases h with ⟨z, hz, h⟩ | ⟨z, hz, h⟩ <;> exact fin z hz h
  · obtain ⟨r, hr, h⟩ := hz
    have e := x_kindAt_spec hr ha hn ht
    have b1 := rn_ge (T := T) (k := 1) hn (by decide) ha
    have b2 := rn_ge (T := T) (k := 2) hn (by decide) ha
    rcases h with ⟨h1, m, h⟩ | ⟨h1, ⟨h2, h⟩ | ⟨h2, m, h⟩⟩
    · have q := e.symm.trans h1
      rw [h1] at h
      obtain ⟨i, hi, h⟩ := x_run3 hn ht (Or.inl rfl) ha.1 m a 0 0 0 ha (by omega) rfl rfl h
      have fin : ∀ z : Int32, z = rn T n 1 a - a → ((z ≤ 8 ∧ kd = 1 ∧ sta = a ∧ po2 = rn T n 1 a ∧ va = vlF T a.toNatClampNeg i ∧ le = enF T a.toNatClampNeg i) ∨ (¬ z ≤ 8 ∧ kd = 6 ∧ sta = a ∧ po2 = rn T n 1 a ∧ va = vlF T a.toNatClampNeg i ∧ le = enF T a.toNatClampNeg i)) → sta = a ∧ TokX T n a kd po2 va le := by
        intro z hz h
        have s := sub_le n8 ha (e := rn T n 1 a) ⟨by omega, b1.2⟩ hi hz
        rcases h with ⟨h3, k1, k2, k3, k4, k5⟩ | ⟨h3, k1, k2, k3, k4, k5⟩
        · exact ⟨k2, tx_word q hi k3 k5 (by rw [k1, if_pos (s.mp h3)])⟩
        · exact ⟨k2, tx_word q hi k3 k5 (by rw [k1, if_neg (fun w => h3 (s.mpr w))])⟩
      rcases h with ⟨z, hz, h⟩ | ⟨z, hz, h⟩ <;> exact fin z hz h
    · have q1 : kc (lookF T n a) ≠ 1 := fun w => h1 (e.trans w)
      have q2 : kc (lookF T n a) ≠ 2 := fun w => h2 (e.trans w)
      rcases h with ⟨h3, z, hz, h⟩ | ⟨h3, z, hz, z2, hz2, h⟩
      · have s : z ≤ 4 := by rw [hz, Int32.sub_self]; decide
        rcases h with ⟨h4, k1, k2, k3, k4, k5⟩ | ⟨h4, -⟩
        · refine ⟨k2, ?_⟩
          rw [k1, e]
          exact tx_one q1 q2 (by rw [k3, ed0 (e.symm.trans h3)])
        · exact absurd s h4
      · have q0 : kc (lookF T n a) ≠ 0 := fun w => h3 (e.trans w)
        have g1 := (look_in q0).1
        have eu := inc1 (u := a) (z := z) (a := 0) (b := 900) ha (by omega) (by omega) hz
        have s : z2 ≤ 4 := by
          rw [sub_le (i := 1) n4 ha (e := z) ⟨by omega, by omega⟩ (by omega) hz2]; decide
        rcases h with ⟨h4, h⟩ | ⟨h4, -⟩
        · rcases h with ⟨h5, k1, k2, k3, k4, k5⟩ | ⟨h5, -⟩
          · refine ⟨k2, ?_⟩
            rw [k1, e]
            exact tx_one q1 q2 (by rw [k3, hz, edo q1 q2 q0])
          · exact absurd s h5
        · exact absurd h4 h1
    · have q := e.symm.trans h2
      rw [h2] at h
      obtain ⟨i, hi, h⟩ := x_run4 hn ht (Or.inr rfl) ha.1 m a 0 0 0 ha (by omega) rfl rfl h
      have fin : ∀ z : Int32, z = rn T n 2 a - a → ((z ≤ 4 ∧ kd = 2 ∧ sta = a ∧ po2 = rn T n 2 a ∧ va = vlF T a.toNatClampNeg i ∧ le = enF T a.toNatClampNeg i) ∨ (¬ z ≤ 4 ∧ kd = 6 ∧ sta = a ∧ po2 = rn T n 2 a ∧ va = vlF T a.toNatClampNeg i ∧ le = enF T a.toNatClampNeg i)) → sta = a ∧ TokX T n a kd po2 va le := by
        intro z hz h
        have s := sub_le n4 ha (e := rn T n 2 a) ⟨by omega, b2.2⟩ hi hz
        rcases h with ⟨h3, k1, k2, k3, k4, k5⟩ | ⟨h3, k1, k2, k3, k4, k5⟩
        · exact ⟨k2, tx_dig q hi k3 k4 (by rw [k1, if_pos (s.mp h3)])⟩
        · exact ⟨k2, tx_dig q hi k3 k4 (by rw [k1, if_neg (fun w => h3 (s.mpr w))])⟩
      rcases h with ⟨z, hz, h⟩ | ⟨z, hz, h⟩ <;> exact fin z hz h
theorem tm_of {k : Int32} : tmF k = if k = 0 then 0 else if k = 1 then 2 else if k = 2 then 3 else if k = 3 then 59 else if k = 4 then 44 else 1 := rfl
theorem m_next_spec {T L L2 : Nat → Int32} {n e at2 en2 ns tk wh : Int32} (hn : IV n 0 900) (hp : IV e 0 900) (h : R_m_nextX n e T L at2 en2 L2 ns tk wh) : at2 = rn T n 5 e ∧ TokM T n (rn T n 5 e) en2 tk wh ns L2 := by
  simp only [R_m_nextX] at h
  obtain ⟨f, h⟩ := h
  have hb := rn_ge (T := T) (k := 5) hn (by decide) hp
  have ha : IV (rn T n 5 e) 0 900 := ⟨by omega, hb.2⟩
  have hz := m_skip hn f e hp h
  have hns : kc (lookF T n (rn T n 5 e)) ≠ 5 := rn_end hn hp
  clear h
  revert hz ha hns
  generalize rn T n 5 e = a
  intro ha hz hns
  obtain ⟨r, hr, h⟩ := hz
  have e1 := m_look_spec hr
  have b1 := rn_ge (T := T) (k := 1) hn (by decide) ha
  have b2 := rn_ge (T := T) (k := 2) hn (by decide) ha
  rcases h with ⟨h1, r2, hr2, h⟩ | ⟨h1, k1, k2, k3, k4, k5, k6⟩
  · have q0 : kc (lookF T n a) ≠ 0 := fun w => h1 (e1.trans (kc0.mp w))
    rcases h with ⟨h2, r3, hr3, h⟩ | ⟨h2, m, h⟩
    · have q1 : kc (lookF T n a) ≠ 1 := by
        rcases m_small hr2 with ⟨-, w⟩ | ⟨w, -⟩
        · rw [← e1]; exact w
        · rw [w] at h2; exact absurd h2 (by decide)
      rcases h with ⟨h3, z, hz, h⟩ | ⟨h3, m, h⟩
      · have q2 : kc (lookF T n a) ≠ 2 := by
          rcases m_digit hr3 with ⟨-, w⟩ | ⟨w, -⟩
          · rw [← e1]; exact w
          · rw [w] at h3; exact absurd h3 (by decide)
        have fin : at2 = a → en2 = z → tk = tmF (kc (lookF T n a)) → at2 = a ∧ TokM T n a en2 tk wh ns L2 := fun g1 g2 g3 =>
          ⟨g1, by rw [g2, hz, edo q1 q2 q0], by rw [g3, tko q1 q2], fun w => absurd ((tko q1 q2).symm.trans w) q1, fun w => absurd ((tko q1 q2).symm.trans w) q2⟩
        rcases h with ⟨h4, k1, k2, k3, k4, k5, k6⟩ | ⟨h4, ⟨h5, k1, k2, k3, k4, k5, k6⟩ | ⟨h5, k1, k2, k3, k4, k5, k6⟩⟩
        · exact fin k1 k2 (by rw [k5, h4, kc3.mpr (e1.symm.trans h4)]; decide)
        · refine fin k1 k2 ?_
          rw [k5, tm_of, if_neg q0, if_neg q1, if_neg q2, if_neg (fun w => h4 (e1.trans (kc3.mp w))), if_neg (fun w => h5 (e1.trans (kc4.mp w)))]
        · exact fin k1 k2 (by rw [k5, h5, kc4.mpr (e1.symm.trans h5)]; decide)
      · have q : kc (lookF T n a) = 2 := by
          rcases m_digit hr3 with ⟨w, -⟩ | ⟨-, w⟩
          · exact absurd w h3
          · rw [← e1]; exact w
        obtain ⟨i, c2, w2, hi, hc, hw, h⟩ := m_runD hn ha.1 m a 0 0 0 ha (by omega) (by decide) (fun _ => rfl) h
        have s : c2 ≤ 4 ↔ i ≤ 4 := by rw [le_I, n4, hc]; omega
        rcases h with ⟨h4, k1, k2, k3, k4, k5, k6⟩ | ⟨h4, k1, k2, k3, k4, k5, k6⟩
        · have s4 := s.mp h4
          have t2 : tkF T n a = 2 := by rw [tk2 q hi, if_pos s4]
          exact ⟨k1, by rw [k2, ed2 q], by rw [k5, t2]; decide, fun w => absurd (t2.symm.trans w) (by decide), fun _ => by rw [k6, hw s4, ln2 q hi]⟩
        · have s4 : ¬ i ≤ 4 := fun w => h4 (s.mpr w)
          have t2 : tkF T n a = 6 := by rw [tk2 q hi, if_neg s4]
          exact ⟨k1, by rw [k2, ed2 q], by rw [k5, t2]; decide, fun w => absurd (t2.symm.trans w) (by decide), fun w => absurd (t2.symm.trans w) (by decide)⟩
    · have q : kc (lookF T n a) = 1 := by
        rcases m_small hr2 with ⟨w, -⟩ | ⟨-, w⟩
        · exact absurd w h2
        · rw [← e1]; exact w
      obtain ⟨i, c2, M2, hi, hc, hw, h⟩ := m_runL hn ha.1 m L a 0 0 ha (by omega) (by decide) (fun k w _ => by omega) h
      have s : c2 ≤ 8 ↔ i ≤ 8 := by rw [le_I, n8, hc]; omega
      rcases h with ⟨h4, k1, k2, k3, k4, k5, k6⟩ | ⟨h4, k1, k2, k3, k4, k5, k6⟩
      · have s8 := s.mp h4
        have t1 : tkF T n a = 1 := by rw [tk1 q hi, if_pos s8]
        exact ⟨k1, by rw [k2, ed1 q], by rw [k5, t1]; decide, fun _ => ⟨by rw [k4, hc, ln1 q hi], fun k w => by rw [k3]; rw [ln1 q hi] at w; exact hw k w (by omega)⟩, fun w => absurd (t1.symm.trans w) (by decide)⟩
      · have s8 : ¬ i ≤ 8 := fun w => h4 (s.mpr w)
        have t1 : tkF T n a = 6 := by rw [tk1 q hi, if_neg s8]
        exact ⟨k1, by rw [k2, ed1 q], by rw [k5, t1]; decide, fun w => absurd (t1.symm.trans w) (by decide), fun w => absurd (t1.symm.trans w) (by decide)⟩
  · have q : kc (lookF T n a) = 0 := kc0.mpr (e1.symm.trans h1)
    have q1 : kc (lookF T n a) ≠ 1 := by rw [q]; decide
    have q2 : kc (lookF T n a) ≠ 2 := by rw [q]; decide
    exact ⟨k1, by rw [k2, ed0 q], by rw [k5, tko q1 q2, q]; decide, fun w => absurd ((tko q1 q2).symm.trans w) q1, fun w => absurd ((tko q1 q2).symm.trans w) q2⟩

def WOk (w : String) : Prop := (sBy w).length ≤ 8 ∧ ∀ k : Nat, k < (sBy w).length → ((((sBy w).getD k 0) &&& 255).toUInt32 % 65536).toInt32 = (sBy w).getD k 0
def IsW (T : Nat → Int32) (n a : Int32) (w : String) : Prop := tkF T n a = 1 ∧ lnF T n a = (sBy w).length ∧ ∀ k : Nat, k < (sBy w).length → T (a.toNatClampNeg + k) = (sBy w).getD k 0
theorem tm2 {k : Int32} : tmF k = 2 ↔ k = 1 := by
  unfold tmF
  constructor
  · intro h
    repeat' split at h
    all_goals first | assumption | (exact absurd h (by decide))
  · rintro rfl; decide
theorem rn_chF {T : Nat → Int32} {n k : Int32} (hn : IV n 0 900) (hk : k ≠ 0) : ∀ (f : Nat) (u : Int32) (i : Nat), (900 - u.toInt).toNat = f → IV u 0 900 → (rn T n k u).toInt = u.toInt + i → ∀ j : Nat, j < i → u.toNatClampNeg + j < 900 ∧ kc (T (u.toNatClampNeg + j)) = k := by
  intro f
  induction f with
  | zero =>
    intro u i hf hu hi j hj
    rw [rn_stop (fun q => by have := (rn_step hn hu.1 hk q).1; omega)] at hi
    omega
  | succ f ih =>
    intro u i hf hu hi j hj
    by_cases q : kc (lookF T n u) = k
    · obtain ⟨h1, h2⟩ := rn_step hn hu.1 hk q
      have e := inc1 (u := u) (z := u + 1) (a := 0) (b := 900) hu (by omega) (by omega) rfl
      have t1 := tn_i hu.1
      have t2 := tn_i (z := u + 1) (by omega)
      rw [h2] at hi
      cases j with
      | zero => exact ⟨by omega, by rw [← q, (look_in (by rw [q]; exact hk)).2]; rfl⟩
      | succ j =>
        have := ih (u + 1) (i - 1) (by omega) ⟨by omega, by omega⟩ (by omega) j (by omega)
        rw [show u.toNatClampNeg + (j + 1) = (u + 1).toNatClampNeg + j by omega]
        exact this
    · rw [rn_stop q] at hi; omega
theorem tk1_inv {T : Nat → Int32} {n a : Int32} (hn : IV n 0 900) (ha : IV a 0 900) (h : tkF T n a = 1) : kc (lookF T n a) = 1 ∧ ∃ i : Nat, (rn T n 1 a).toInt = a.toInt + i ∧ i ≤ 8 ∧ 1 ≤ i ∧ lnF T n a = i ∧ edF T n a = rn T n 1 a := by
  have q : kc (lookF T n a) = 1 := by
    unfold tkF at h
    split at h
    · assumption
    · split at h
      · split at h <;> exact absurd h (by decide)
      · exact h
  obtain ⟨b1, b2⟩ := rn_ge (T := T) (k := 1) hn (by decide) ha
  have hi : (rn T n 1 a).toInt = a.toInt + (((rn T n 1 a).toInt - a.toInt).toNat : Nat) := by omega
  refine ⟨q, _, hi, ?_, ?_, ln1 q hi, ed1 q⟩
  · have := tk1 q hi
    rw [h] at this
    split at this
    · assumption
    · exact absurd this (by decide)
  · obtain ⟨g1, g2⟩ := rn_step hn ha.1 (by decide) q
    have e := inc1 (u := a) (z := a + 1) (a := 0) (b := 900) ha (by omega) (by omega) rfl
    have := rn_ge (T := T) (k := 1) (u := a + 1) hn (by decide) ⟨by omega, by omega⟩
    rw [g2] at hi ⊢
    omega
theorem word_ch {T : Nat → Int32} {n a : Int32} (hn : IV n 0 900) (ha : IV a 0 900) (h : tkF T n a = 1) {k : Nat} (hk : k < lnF T n a) : a.toNatClampNeg + k < 900 ∧ IV (T (a.toNatClampNeg + k)) 97 122 := by
  obtain ⟨q, i, hi, h8, h1, hl, he⟩ := tk1_inv hn ha h
  have := rn_chF hn (by decide) _ a i rfl ha hi k (by omega)
  exact ⟨this.1, kc1.mp this.2⟩
theorem nIt {k : Nat} (h : k ≤ 900) : (nI k).toInt = k := nI_toInt (by omega)
theorem x_is_loop {T tp : Nat → Int32} {n a r : Int32} {w : String} (hn : IV n 0 900) (ha : IV a 0 900) (ht : TpR tp T) (hw : WOk w) (h1 : tkF T n a = 1) (hl : lnF T n a = (sBy w).length) : ∀ (f : Nat) (u : Int32) (j : Nat), u.toInt = j → j ≤ (sBy w).length → (∀ k : Nat, k < j → T (a.toNatClampNeg + k) = (sBy w).getD k 0) → R_x_isX_L0 a tp w r (r = 1) (r = 1) f u → (r = 1 ∧ ∀ k : Nat, k < (sBy w).length → T (a.toNatClampNeg + k) = (sBy w).getD k 0) ∨ (r = 0 ∧ ¬ ∀ k : Nat, k < (sBy w).length → T (a.toNatClampNeg + k) = (sBy w).getD k 0) := by
  intro f
  induction f with
  | zero => intro u j _ _ _ h; exact h.elim
  | succ f ih =>
    intro u j hj hj2 hall h
    have hw8 := hw.1
    simp only [R_x_isX_L0] at h
    obtain ⟨r1, hr1, h⟩ := h
    have e1 : r1.toInt = ((sBy w).length : Nat) := by rw [hr1, nIt (by omega)]
    rcases h with ⟨h2, h⟩ | ⟨h2, z, hz, h⟩
    · rw [le_I] at h2
      exact Or.inl ⟨h, fun k hk => hall k (by omega)⟩
    · rw [le_I] at h2
      have hc := word_ch hn ha h1 (k := j) (by omega)
      have tn := tn_i ha.1
      have ez := in_add hz ha (show IV u 0 8 from ⟨by omega, by omega⟩) (by decide) (by decide)
      have n900 : (900 : Int32).toInt = 900 := by decide
      have ezn : z.toNatClampNeg = a.toNatClampNeg + j := by have := tn_i (z := z) (by omega); omega
      rcases h with ⟨h3, -⟩ | ⟨h3, z2, hz2, r2, hr2, h⟩
      · rw [le_I, n900] at h3; omega
      · have ejn : u.toNatClampNeg = j := by have := tn_i (z := u) (by omega); omega
        have et : z2 = T (a.toNatClampNeg + j) := by
          rw [hz2, ezn, (ht _ hc.1).2]
          exact sx_id ⟨by omega, by omega⟩
        have er : r2 = (sBy w).getD j 0 := by rw [hr2, ejn]; exact hw.2 j (by omega)
        rcases h with ⟨h4, z3, hz3, h⟩ | ⟨h4, h⟩
        · rw [ofI1] at hz3
          have e3 := inc1 (u := u) (z := z3) (a := 0) (b := 900) ⟨by omega, by omega⟩ (by omega) (by omega) hz3.symm
          refine ih z3 (j + 1) (by omega) (by omega) (fun k hk => ?_) h
          by_cases q : k = j
          · subst q; rw [← et, h4, er]
          · exact hall k (by omega)
        · exact Or.inr ⟨h, fun q => h4 (by rw [et, er]; exact q j (by omega))⟩
theorem x_is_spec {T tp : Nat → Int32} {n a kd po va r : Int32} {le : Int64} {w : String} (hn : IV n 0 900) (ha : IV a 0 900) (ht : TpR tp T) (hw : WOk w) (hk : TokX T n a kd po va le) (h : R_x_isX kd a po tp w r) : (r = 1 ∧ IsW T n a w) ∨ (r = 0 ∧ ¬ IsW T n a w) := by
  obtain ⟨k1, k2, -, -⟩ := hk
  simp only [R_x_isX] at h
  rcases h with ⟨h1, h⟩ | ⟨h1, r1, hr1, z, hz, h⟩
  · exact Or.inr ⟨h, fun q => h1 (k1.trans q.1)⟩
  · have t1 := k1.symm.trans h1
    obtain ⟨q, i, hi, h8, hi1, hl, he⟩ := tk1_inv hn ha t1
    have b1 := rn_ge (T := T) (k := 1) hn (by decide) ha
    have hw8 := hw.1
    have ez := in_sub (x := po) (y := a) hz (show IV po 0 900 by rw [k2, he]; exact ⟨by omega, b1.2⟩) ha (by decide) (by decide)
    rw [k2, he, hi] at ez
    have e1 : r1.toInt = ((sBy w).length : Nat) := by rw [hr1, nIt (by omega)]
    rcases h with ⟨h2, f, h⟩ | ⟨h2, h⟩
    · have e2 : r1.toInt = z.toInt := by rw [h2]
      rcases x_is_loop hn ha ht hw t1 (by omega) f 0 0 (by decide) (by omega) (fun k hk => by omega) h with ⟨g1, g2⟩ | ⟨g1, g2⟩
      · exact Or.inl ⟨g1, t1, by omega, g2⟩
      · exact Or.inr ⟨g1, fun q => g2 q.2.2⟩
    · exact Or.inr ⟨h, fun q => h2 (Int32.toInt_inj.mp (by have := q.2.1; omega))⟩
theorem m_is_loop {T L : Nat → Int32} {n a ns : Int32} {w : String} {κ : Int32 → Prop} (hw : WOk w) (hl : lnF T n a = (sBy w).length) (hns : ns.toInt = ((sBy w).length : Nat)) (hL : ∀ k : Nat, k < lnF T n a → L k = T (a.toNatClampNeg + k)) : ∀ (f : Nat) (s u : Int32) (j : Nat), u.toInt = j → j ≤ (sBy w).length → ((s = 1 ∧ ∀ k : Nat, k < j → T (a.toNatClampNeg + k) = (sBy w).getD k 0) ∨ (s = 0 ∧ ¬ ∀ k : Nat, k < (sBy w).length → T (a.toNatClampNeg + k) = (sBy w).getD k 0)) → R_m_isWordX_L0 ns L w κ f s u → (κ 1 ∧ ∀ k : Nat, k < (sBy w).length → T (a.toNatClampNeg + k) = (sBy w).getD k 0) ∨ (κ 0 ∧ ¬ ∀ k : Nat, k < (sBy w).length → T (a.toNatClampNeg + k) = (sBy w).getD k 0) := by
  intro f
  induction f with
  | zero => intro s u j _ _ _ h; exact h.elim
  | succ f ih =>
    intro s u j hj hj2 hs h
    have hw8 := hw.1
    simp only [R_m_isWordX_L0] at h
    rcases h with ⟨h2, h⟩ | ⟨h2, h⟩
    · rw [le_I] at h2
      rcases hs with ⟨rfl, hs⟩ | ⟨rfl, hs⟩
      · exact Or.inl ⟨h, fun k hk => hs k (by omega)⟩
      · exact Or.inr ⟨h, hs⟩
    · rw [le_I] at h2
      rw [ofI1] at h
      have e3 := inc1 (u := u) (z := u + 1) (a := 0) (b := 900) ⟨by omega, by omega⟩ (by omega) (by omega) rfl
      have ejn : u.toNatClampNeg = j := by have := tn_i (z := u) (by omega); omega
      rcases h with ⟨h3, z, hz, h⟩ | ⟨h3, z, hz, r, hr, h⟩
      · subst hz
        refine ih 0 (u + 1) (j + 1) (by omega) (by omega) (Or.inr ⟨rfl, ?_⟩) h
        rcases hs with ⟨q, -⟩ | ⟨-, hs⟩
        · rw [h3] at q; exact absurd q (by decide)
        · exact hs
      · have hs' : ∀ k : Nat, k < j → T (a.toNatClampNeg + k) = (sBy w).getD k 0 := by
          rcases hs with ⟨-, hs⟩ | ⟨q, -⟩
          · exact hs
          · exact absurd q h3
        have ez : z = T (a.toNatClampNeg + j) := by rw [hz, ejn]; exact hL j (by omega)
        have er : r = (sBy w).getD j 0 := by rw [hr, ejn]; exact hw.2 j (by omega)
        rcases h with ⟨h4, z2, hz2, h⟩ | ⟨h4, z2, hz2, h⟩
        · subst hz2
          exact ih 0 (u + 1) (j + 1) (by omega) (by omega) (Or.inr ⟨rfl, fun q => h4 (by rw [ez, er]; exact q j (by omega))⟩) h
        · subst hz2
          refine ih 1 (u + 1) (j + 1) (by omega) (by omega) (Or.inl ⟨rfl, fun k hk => ?_⟩) h
          by_cases q : k = j
          · subst q; rw [← ez, h4, er]
          · exact hs' k (by omega)
theorem m_is_spec {T L : Nat → Int32} {n a en tk wh ns r : Int32} {w : String} (hw : WOk w) (hk : TokM T n a en tk wh ns L) (h : R_m_isWordX tk ns 0 L w r) : (r = 1 ∧ IsW T n a w) ∨ (r = 0 ∧ ¬ IsW T n a w) := by
  obtain ⟨k1, k2, k3, -⟩ := hk
  simp only [R_m_isWordX] at h
  rcases h with ⟨h1, -⟩ | ⟨-, h⟩
  · exact absurd rfl h1
  · rcases h with ⟨h1, h⟩ | ⟨h1, r1, hr1, h⟩
    · exact Or.inr ⟨h, fun q => h1 (k2.trans (tm2.mpr q.1))⟩
    · have t1 := tm2.mp (k2.symm.trans h1)
      obtain ⟨g1, g2⟩ := k3 t1
      have hw8 := hw.1
      have e1 : r1.toInt = ((sBy w).length : Nat) := by rw [hr1, nIt (by omega)]
      rcases h with ⟨h2, f, h⟩ | ⟨h2, h⟩
      · have hl : lnF T n a = (sBy w).length := by rw [h2, e1] at g1; omega
        rcases m_is_loop (κ := fun u => r = u) hw hl (by rw [h2, e1]) g2 f 1 0 0 (by decide) (by omega) (Or.inl ⟨rfl, fun k hk => by omega⟩) h with ⟨q1, q2⟩ | ⟨q1, q2⟩
        · exact Or.inl ⟨q1, t1, hl, q2⟩
        · exact Or.inr ⟨q1, fun q => q2 q.2.2⟩
      · exact Or.inr ⟨h, fun q => h2 (Int32.toInt_inj.mp (by have := q.2.1; omega))⟩

set_option maxRecDepth 100000
set_option maxHeartbeats 4000000
abbrev Rs (α : Type) : Type := Sum (Int32 × Int32) α
def bnd {α β : Type} (s : Rs α) (f : α → Rs β) : Rs β := match s with
  | .inl e => .inl e
  | .inr a => f a
def nx (T : Nat → Int32) (n a : Int32) : Int32 := rn T n 5 (edF T n a)
theorem ed_iv {T : Nat → Int32} {n a : Int32} (hn : IV n 0 900) (ha : IV a 0 900) : a.toInt ≤ (edF T n a).toInt ∧ (edF T n a).toInt ≤ 900 := by
  unfold edF
  have b1 := rn_ge (T := T) (k := 1) hn (by decide) ha
  have b2 := rn_ge (T := T) (k := 2) hn (by decide) ha
  split
  · exact b1
  · split
    · exact b2
    · split
      · omega
      · rename_i q
        have := (look_in q).1
        have e := inc1 (u := a) (z := a + 1) (a := 0) (b := 900) ha (by omega) (by omega) rfl
        omega
theorem ed_iv' {T : Nat → Int32} {n a : Int32} (hn : IV n 0 900) (ha : IV a 0 900) : IV (edF T n a) 0 900 := by
  have := ed_iv (T := T) hn ha
  exact ⟨by omega, this.2⟩
theorem nx_iv {T : Nat → Int32} {n a : Int32} (hn : IV n 0 900) (ha : IV a 0 900) : IV (nx T n a) 0 900 := by
  have h1 := ed_iv' (T := T) hn ha
  have := rn_ge (T := T) (k := 5) hn (by decide) h1
  exact ⟨by have := h1.1; unfold nx; omega, this.2⟩
/-- the reference's state: failed, or at the token that begins at a -/
def MS (T : Nat → Int32) (n : Int32) (ρ : Rs Int32) (at_ en fd ft : Int32) (L : Nat → Int32) (ns pl tk wh : Int32) : Prop := match ρ with
  | .inl e => fd = 1 ∧ ft = e.1 ∧ pl = e.2
  | .inr a => fd = 0 ∧ ft = 0 ∧ at_ = a ∧ IV a 0 900 ∧ TokM T n a en tk wh ns L
def MV (T : Nat → Int32) (n : Int32) (σ : Rs (Int32 × Int32)) (r at_ en fd ft : Int32) (L : Nat → Int32) (ns pl tk wh : Int32) : Prop := match σ with
  | .inl e => MS T n (.inl e) at_ en fd ft L ns pl tk wh
  | .inr v => r = v.1 ∧ MS T n (.inr v.2) at_ en fd ft L ns pl tk wh
theorem qm_next_at {T L L2 : Nat → Int32} {n a en tk wh ns at2 en2 ns2 tk2 wh2 : Int32} (hn : IV n 0 900) (ha : IV a 0 900) (hk : TokM T n a en tk wh ns L) (h : R_m_nextX n en T L at2 en2 L2 ns2 tk2 wh2) : at2 = nx T n a ∧ IV (nx T n a) 0 900 ∧ TokM T n (nx T n a) en2 tk2 wh2 ns2 L2 := by
  have e := hk.1
  subst e
  obtain ⟨h1, h2⟩ := m_next_spec hn (ed_iv' hn ha) h
  exact ⟨h1, nx_iv hn ha, h2⟩
noncomputable def labS (T : Nat → Int32) (n : Int32) (w : String) (a : Int32) : Rs Int32 := @ite _ (IsW T n a w) (Classical.propDecidable _) (.inr (nx T n a)) (.inl (1, a))
theorem lab_p {T : Nat → Int32} {n a : Int32} {w : String} (h : IsW T n a w) : labS T n w a = .inr (nx T n a) := by unfold labS; rw [if_pos h]
theorem lab_n {T : Nat → Int32} {n a : Int32} {w : String} (h : ¬ IsW T n a w) : labS T n w a = .inl (1, a) := by unfold labS; rw [if_neg h]
def valF (T : Nat → Int32) (n a : Int32) : Int32 := vlF T a.toNatClampNeg (lnF T n a)
def numH (T : Nat → Int32) (n lo hi a : Int32) : Rs Int32 := if tkF T n a = 2 then (if valF T n a < lo then .inl (4, a) else if hi < valF T n a then .inl (4, a) else .inr (valF T n a)) else .inl (1, a)
def numS (T : Nat → Int32) (n lo hi a : Int32) : Rs (Int32 × Int32) := bnd (numH T n lo hi a) (fun v => .inr (v, nx T n a))
theorem qm_bad {p q ft pl fd fd2 ft2 pl2 : Int32} (h0 : fd = 0) (h : R_m_badX p q ft pl fd fd2 ft2 pl2) : fd2 = 1 ∧ ft2 = p ∧ pl2 = q := by
  simp only [R_m_badX] at h
  rcases h with ⟨-, h⟩ | ⟨h1, -⟩
  · exact h
  · exact absurd h0 h1
theorem qm_bad1 {p q ft pl fd fd2 ft2 pl2 : Int32} (h0 : fd = 1) (h : R_m_badX p q ft pl fd fd2 ft2 pl2) : fd2 = 1 ∧ ft2 = ft ∧ pl2 = pl := by
  simp only [R_m_badX] at h
  rcases h with ⟨h1, -⟩ | ⟨h1, h⟩
  · rw [h0] at h1; exact absurd h1 (by decide)
  · rw [h0] at h; exact h
theorem one0 : (1 : Int32) ≠ 0 := by decide
theorem qm_must {T L L2 : Nat → Int32} {n at_ en fd ft ns pl tk wh at2 en2 fd2 ft2 ns2 pl2 tk2 wh2 : Int32} {w : String} {ρ : Rs Int32} (hn : IV n 0 900) (hw : WOk w) (hs : MS T n ρ at_ en fd ft L ns pl tk wh) (h : R_m_mustX n at_ en tk wh ns ft pl fd T L w at2 en2 fd2 ft2 L2 ns2 pl2 tk2 wh2) : MS T n (bnd ρ (labS T n w)) at2 en2 fd2 ft2 L2 ns2 pl2 tk2 wh2 := by
  simp only [R_m_mustX] at h
  cases ρ with
  | inl e =>
    obtain ⟨s1, s2, s3⟩ := hs
    rcases h with h | ⟨h0, -⟩
    · refine exA9 h ?_
      clear h
      intro zn0 k1 k2 k3 k4 k5 k6 k7 k8 k9
      clear zn0
      exact ⟨by rw [k3, s1], by rw [k4, s2], by rw [k7, s3]⟩
    · rw [s1] at h0; exact absurd h0 one0
  | inr a =>
    obtain ⟨s1, s2, s3, s4, s5⟩ := hs
    rcases h with ⟨h0, -⟩ | h
    · exact absurd s1 h0
    · refine exA1 h ?_
      clear h
      intro zn0 h
      refine exE7 h ?_
      clear h
      intro a1 e1 L1 n1 t1 w1 r1 ht h
      clear zn0
      simp only [R_m_takesWordX] at ht
      obtain ⟨r0, hi, ht⟩ := ht
      rw [s1] at hi
      show MS T n (labS T n w a) at2 en2 fd2 ft2 L2 ns2 pl2 tk2 wh2
      rcases m_is_spec hw s5 hi with ⟨q, hq⟩ | ⟨q, hq⟩
      · rcases ht with ht | ⟨h1, -⟩
        · refine exA1 ht ?_
          clear ht
          intro zn0 ht
          refine exE6 ht ?_
          clear ht
          intro a2 e2 M2 n2 t2 w2 hx ht
          refine exA6 ht ?_
          clear ht
          intro g1 g2 g3 g4 g5 g6 g7
          clear zn0
          rcases h with h | ⟨h2, -⟩
          · refine exA9 h ?_
            clear h
            intro zn0 k1 k2 k3 k4 k5 k6 k7 k8 k9
            clear zn0
            obtain ⟨x1, x2, x3⟩ := qm_next_at hn s4 s5 hx
            rw [lab_p hq]
            subst g1 g2 g3 g4 g5 g6 k1 k2 k5 k6 k8 k9
            exact ⟨by rw [k3, s1], by rw [k4, s2], x1, x2, x3⟩
          · rw [g7] at h2; exact absurd h2 one0
        · rw [q] at h1; exact absurd h1 one0
      · rcases ht with ⟨h1, -⟩ | ⟨-, g1, g2, g3, g4, g5, g6, g7⟩
        · exact absurd q h1
        · rcases h with ⟨h2, -⟩ | h
          · exact absurd g7 h2
          · refine exA1 h ?_
            clear h
            intro zn0 h
            refine exE3 h ?_
            clear h
            intro f1 u1 p1 hb h
            refine exA8 h ?_
            clear h
            intro k1 k2 k3 k4 k5 k6 k7 k8 k9
            clear zn0
            obtain ⟨b1, b2, b3⟩ := qm_bad s1 hb
            rw [lab_n hq]
            exact ⟨by rw [k3, b1], by rw [k4, b2], by rw [k7, b3, g1, s3]⟩
theorem qm_in {x a b r : Int32} (h : R_m_inX x a b r) : (r = 0 ∧ (x < a ∨ b < x)) ∨ (r = 1 ∧ ¬ x < a ∧ ¬ b < x) := by
  simp only [R_m_inX] at h
  rcases h with ⟨h1, h⟩ | ⟨h1, ⟨h2, h⟩ | ⟨h2, h⟩⟩
  · exact Or.inl ⟨h, Or.inl h1⟩
  · exact Or.inl ⟨h, Or.inr h2⟩
  · exact Or.inr ⟨h, h1, h2⟩
theorem tm3 {k : Int32} : tmF k = 3 ↔ k = 2 := by
  unfold tmF
  constructor
  · intro h
    repeat' split at h
    all_goals first | assumption | (exact absurd h (by decide))
  · rintro rfl; decide
theorem qm_numH {T L : Nat → Int32} {n a lo hi en tk wh ns ft pl fd fd2 ft2 pl2 r : Int32} (hk : TokM T n a en tk wh ns L) (h0 : fd = 0) (h : R_m_numberHereX lo hi a tk wh ft pl fd fd2 ft2 pl2 r) : (∃ f : Int32, numH T n lo hi a = .inl (f, a) ∧ fd2 = 1 ∧ ft2 = f ∧ pl2 = a) ∨ (numH T n lo hi a = .inr r ∧ fd2 = fd ∧ ft2 = ft ∧ pl2 = pl) := by
  obtain ⟨k1, k2, -, k4⟩ := hk
  simp only [R_m_numberHereX] at h
  rcases h with ⟨-, h⟩ | ⟨h1, -⟩
  · rcases h with ⟨h1, r1, hr, h⟩ | h
    · have t2 := tm3.mp (k2.symm.trans h1)
      have ev : wh = valF T n a := k4 t2
      rcases qm_in hr with ⟨q, hq⟩ | ⟨q, q1, q2⟩
      · rcases h with ⟨h2, -⟩ | h
        · exact absurd q h2
        · refine exA1 h ?_
          clear h
          intro zn0 h
          refine exE3 h ?_
          clear h
          intro f1 u1 p1 hb h
          refine exA3 h ?_
          clear h
          intro g1 g2 g3 g4
          clear zn0
          obtain ⟨b1, b2, b3⟩ := qm_bad h0 hb
          refine Or.inl ⟨4, ?_, by rw [g1, b1], by rw [g2, b2], by rw [g3, b3]⟩
          unfold numH
          rw [if_pos t2, ← ev]
          rcases hq with hq | hq
          · rw [if_pos hq]
          · by_cases ql : wh < lo
            · rw [if_pos ql]
            · rw [if_neg ql, if_pos hq]
      · rcases h with ⟨-, g1, g2, g3, g4⟩ | ⟨h2, -⟩
        · refine Or.inr ⟨?_, g1, g2, g3⟩
          unfold numH
          rw [if_pos t2, ← ev, if_neg q1, if_neg q2, g4]
        · rw [q] at h2; exact absurd h2 one0
    · refine exA1 h ?_
      clear h
      intro h1 h
      refine exE3 h ?_
      clear h
      intro f1 u1 p1 hb h
      refine exA3 h ?_
      clear h
      intro g1 g2 g3 g4
      obtain ⟨b1, b2, b3⟩ := qm_bad h0 hb
      refine Or.inl ⟨1, ?_, by rw [g1, b1], by rw [g2, b2], by rw [g3, b3]⟩
      unfold numH
      rw [if_neg (fun q => h1 (k2.trans (tm3.mpr q)))]
  · exact absurd h0 h1
theorem qm_number {T L L2 : Nat → Int32} {n lo hi at_ en fd ft ns pl tk wh at2 en2 fd2 ft2 ns2 pl2 tk2 wh2 r : Int32} {ρ : Rs Int32} (hn : IV n 0 900) (hs : MS T n ρ at_ en fd ft L ns pl tk wh) (h : R_m_numberX lo hi n at_ en tk wh ns ft pl fd T L at2 en2 fd2 ft2 L2 ns2 pl2 tk2 wh2 r) : MV T n (bnd ρ (numS T n lo hi)) r at2 en2 fd2 ft2 L2 ns2 pl2 tk2 wh2 := by
  simp only [R_m_numberX] at h
  obtain ⟨f1, u1, p1, r1, hh, h⟩ := h
  cases ρ with
  | inl e =>
    obtain ⟨s1, s2, s3⟩ := hs
    simp only [R_m_numberHereX] at hh
    rcases hh with ⟨h0, -⟩ | ⟨-, g1, g2, g3, g4⟩
    · rw [s1] at h0; exact absurd h0 one0
    · rcases h with h | ⟨h0, -⟩
      · refine exA10 h ?_
        clear h
        intro zn0 k1 k2 k3 k4 k5 k6 k7 k8 k9 k10
        clear zn0
        exact ⟨by rw [k3, g1, s1], by rw [k4, g2, s2], by rw [k7, g3, s3]⟩
      · rw [g1, s1] at h0; exact absurd h0 one0
  | inr a =>
    obtain ⟨s1, s2, s3, s4, s5⟩ := hs
    subst s3
    show MV T n (numS T n lo hi at_) r at2 en2 fd2 ft2 L2 ns2 pl2 tk2 wh2
    unfold numS
    rcases qm_numH s5 s1 hh with ⟨f, e1, e2, e3, e4⟩ | ⟨e1, e2, e3, e4⟩
    · rw [e1]
      rcases h with h | ⟨h0, -⟩
      · refine exA10 h ?_
        clear h
        intro zn0 k1 k2 k3 k4 k5 k6 k7 k8 k9 k10
        clear zn0
        exact ⟨by rw [k3, e2], by rw [k4, e3], by rw [k7, e4]⟩
      · rw [e2] at h0; exact absurd h0 one0
    · rw [e1]
      rcases h with ⟨h0, -⟩ | h
      · exact absurd (e2.trans s1) h0
      · refine exA1 h ?_
        clear h
        intro zn0 h
        refine exE6 h ?_
        clear h
        intro a2 n2 M2 m2 t2 w2 hx h
        refine exA9 h ?_
        clear h
        intro k1 k2 k3 k4 k5 k6 k7 k8 k9 k10
        clear zn0
        obtain ⟨x1, x2, x3⟩ := qm_next_at hn s4 s5 hx
        subst k1 k2 k5 k6 k8 k9
        exact ⟨k10, by rw [k3, e2, s1], by rw [k4, e3, s2], x1, x2, x3⟩
theorem qm_after {T L L2 : Nat → Int32} {n lo hi at_ en fd ft ns pl tk wh at2 en2 fd2 ft2 ns2 pl2 tk2 wh2 r : Int32} {w : String} {ρ : Rs Int32} (hn : IV n 0 900) (hw : WOk w) (hs : MS T n ρ at_ en fd ft L ns pl tk wh) (h : R_m_afterX lo hi n at_ en tk wh ns ft pl fd T L w at2 en2 fd2 ft2 L2 ns2 pl2 tk2 wh2 r) : MV T n (bnd (bnd ρ (labS T n w)) (numS T n lo hi)) r at2 en2 fd2 ft2 L2 ns2 pl2 tk2 wh2 := by
  simp only [R_m_afterX] at h
  refine exE9 h ?_
  clear h
  intro a1 e1 f1 u1 L1 n1 p1 t1 w1 hm h
  refine exE10 h ?_
  clear h
  intro a2 e2 f2 u2 M2 n2 p2 t2 w2 r2 hu h
  refine exA9 h ?_
  clear h
  intro k1 k2 k3 k4 k5 k6 k7 k8 k9 k10
  have h1 := qm_must hn hw hs hm
  have h2 := qm_number hn h1 hu
  subst k1 k2 k3 k4 k5 k6 k7 k8 k9 k10
  exact h2

set_option maxRecDepth 100000
set_option maxHeartbeats 4000000
theorem wok_house : WOk "house" := by unfold WOk; decide +kernel
theorem wok_reel : WOk "reel" := by unfold WOk; decide +kernel
theorem wok_town : WOk "town" := by unfold WOk; decide +kernel
theorem wok_mark : WOk "mark" := by unfold WOk; decide +kernel
theorem wok_join : WOk "join" := by unfold WOk; decide +kernel
theorem wok_weak : WOk "weak" := by unfold WOk; decide +kernel
theorem wok_man : WOk "man" := by unfold WOk; decide +kernel
theorem wok_shows : WOk "shows" := by unfold WOk; decide +kernel
theorem wok_boys : WOk "boys" := by unfold WOk; decide +kernel
theorem wok_by : WOk "by" := by unfold WOk; decide +kernel
theorem wok_seen : WOk "seen" := by unfold WOk; decide +kernel
theorem wok_scratch : WOk "scratch" := by unfold WOk; decide +kernel
theorem wok_apart : WOk "apart" := by unfold WOk; decide +kernel
theorem wok_motor : WOk "motor" := by unfold WOk; decide +kernel
theorem wok_leader : WOk "leader" := by unfold WOk; decide +kernel
theorem wok_burns : WOk "burns" := by unfold WOk; decide +kernel
theorem wok_trim : WOk "trim" := by unfold WOk; decide +kernel
theorem wok_mend : WOk "mend" := by unfold WOk; decide +kernel
theorem wok_frames : WOk "frames" := by unfold WOk; decide +kernel
theorem wok_first : WOk "first" := by unfold WOk; decide +kernel
theorem wok_whole : WOk "whole" := by unfold WOk; decide +kernel
theorem wok_trust : WOk "trust" := by unfold WOk; decide +kernel
theorem wok_lacks : WOk "lacks" := by unfold WOk; decide +kernel
theorem wok_snaps : WOk "snaps" := by unfold WOk; decide +kernel
theorem wok_clean : WOk "clean" := by unfold WOk; decide +kernel
theorem wok_early : WOk "early" := by unfold WOk; decide +kernel
theorem wok_late : WOk "late" := by unfold WOk; decide +kernel
theorem wok_misled : WOk "misled" := by unfold WOk; decide +kernel
theorem wok_slip : WOk "slip" := by unfold WOk; decide +kernel
theorem wok_ride : WOk "ride" := by unfold WOk; decide +kernel
theorem wok_falls : WOk "falls" := by unfold WOk; decide +kernel
theorem wok_black : WOk "black" := by unfold WOk; decide +kernel
theorem wok_lost : WOk "lost" := by unfold WOk; decide +kernel
def ResW (T : Nat → Int32) (n a : Int32) : Prop := IsW T n a "house" ∨ IsW T n a "reel" ∨ IsW T n a "town" ∨ IsW T n a "mark" ∨ IsW T n a "join" ∨ IsW T n a "weak" ∨ IsW T n a "man" ∨ IsW T n a "shows" ∨ IsW T n a "boys" ∨ IsW T n a "by" ∨ IsW T n a "seen" ∨ IsW T n a "scratch"
def NameOk (T : Nat → Int32) (n a : Int32) : Prop := tkF T n a = 1 ∧ ¬ ResW T n a
theorem qm_mustName {T L : Nat → Int32} {n a en tk wh ns ft pl fd2 ft2 pl2 : Int32} (hk : TokM T n a en tk wh ns L) (h : R_m_mustNameX a tk ns ft pl 0 L fd2 ft2 pl2) : (NameOk T n a ∧ fd2 = 0 ∧ ft2 = ft ∧ pl2 = pl) ∨ (¬ NameOk T n a ∧ fd2 = 1 ∧ ft2 = 1 ∧ pl2 = a) := by
  simp only [R_m_mustNameX] at h
  have fin : ∀ f1 u1 p1 : Int32, ResW T n a → R_m_badX 1 a ft pl 0 f1 u1 p1 → fd2 = f1 → ft2 = u1 → pl2 = p1 → (NameOk T n a ∧ fd2 = 0 ∧ ft2 = ft ∧ pl2 = pl) ∨ (¬ NameOk T n a ∧ fd2 = 1 ∧ ft2 = 1 ∧ pl2 = a) := by
    intro f1 u1 p1 hr hb g1 g2 g3
    obtain ⟨b1, b2, b3⟩ := qm_bad rfl hb
    exact Or.inr ⟨fun q => q.2 hr, by rw [g1, b1], by rw [g2, b2], by rw [g3, b3]⟩
  obtain ⟨r, hr, h⟩ := h
  have n0 : ¬ IsW T n a "house" ∧ r = 0 ∨ IsW T n a "house" ∧ r = 1 := by
    rcases m_is_spec wok_house hk hr with ⟨q, hq⟩ | ⟨q, hq⟩
    · exact Or.inr ⟨hq, q⟩
    · exact Or.inl ⟨hq, q⟩
  rcases n0 with ⟨n0, q⟩ | ⟨hq, q⟩
  case inr =>
    rcases h with ⟨-, f1, u1, p1, hb, g1, g2, g3⟩ | ⟨h0, -⟩
    · exact fin f1 u1 p1 (Or.inl hq) hb g1 g2 g3
    · rw [q] at h0; exact absurd h0 one0
  rcases h with ⟨h0, -⟩ | ⟨-, h⟩
  · exact absurd q h0
  clear hr q
  obtain ⟨r, hr, h⟩ := h
  have n1 : ¬ IsW T n a "reel" ∧ r = 0 ∨ IsW T n a "reel" ∧ r = 1 := by
    rcases m_is_spec wok_reel hk hr with ⟨q, hq⟩ | ⟨q, hq⟩
    · exact Or.inr ⟨hq, q⟩
    · exact Or.inl ⟨hq, q⟩
  rcases n1 with ⟨n1, q⟩ | ⟨hq, q⟩
  case inr =>
    rcases h with ⟨-, f1, u1, p1, hb, g1, g2, g3⟩ | ⟨h0, -⟩
    · exact fin f1 u1 p1 (Or.inr (Or.inl hq)) hb g1 g2 g3
    · rw [q] at h0; exact absurd h0 one0
  rcases h with ⟨h0, -⟩ | ⟨-, h⟩
  · exact absurd q h0
  clear hr q
  obtain ⟨r, hr, h⟩ := h
  have n2 : ¬ IsW T n a "town" ∧ r = 0 ∨ IsW T n a "town" ∧ r = 1 := by
    rcases m_is_spec wok_town hk hr with ⟨q, hq⟩ | ⟨q, hq⟩
    · exact Or.inr ⟨hq, q⟩
    · exact Or.inl ⟨hq, q⟩
  rcases n2 with ⟨n2, q⟩ | ⟨hq, q⟩
  case inr =>
    rcases h with ⟨-, f1, u1, p1, hb, g1, g2, g3⟩ | ⟨h0, -⟩
    · exact fin f1 u1 p1 (Or.inr (Or.inr (Or.inl hq))) hb g1 g2 g3
    · rw [q] at h0; exact absurd h0 one0
  rcases h with ⟨h0, -⟩ | ⟨-, h⟩
  · exact absurd q h0
  clear hr q
  obtain ⟨r, hr, h⟩ := h
  have n3 : ¬ IsW T n a "mark" ∧ r = 0 ∨ IsW T n a "mark" ∧ r = 1 := by
    rcases m_is_spec wok_mark hk hr with ⟨q, hq⟩ | ⟨q, hq⟩
    · exact Or.inr ⟨hq, q⟩
    · exact Or.inl ⟨hq, q⟩
  rcases n3 with ⟨n3, q⟩ | ⟨hq, q⟩
  case inr =>
    rcases h with ⟨-, f1, u1, p1, hb, g1, g2, g3⟩ | ⟨h0, -⟩
    · exact fin f1 u1 p1 (Or.inr (Or.inr (Or.inr (Or.inl hq)))) hb g1 g2 g3
    · rw [q] at h0; exact absurd h0 one0
  rcases h with ⟨h0, -⟩ | ⟨-, h⟩
  · exact absurd q h0
  clear hr q
  obtain ⟨r, hr, h⟩ := h
  have n4 : ¬ IsW T n a "join" ∧ r = 0 ∨ IsW T n a "join" ∧ r = 1 := by
    rcases m_is_spec wok_join hk hr with ⟨q, hq⟩ | ⟨q, hq⟩
    · exact Or.inr ⟨hq, q⟩
    · exact Or.inl ⟨hq, q⟩
  rcases n4 with ⟨n4, q⟩ | ⟨hq, q⟩
  case inr =>
    rcases h with ⟨-, f1, u1, p1, hb, g1, g2, g3⟩ | ⟨h0, -⟩
    · exact fin f1 u1 p1 (Or.inr (Or.inr (Or.inr (Or.inr (Or.inl hq))))) hb g1 g2 g3
    · rw [q] at h0; exact absurd h0 one0
  rcases h with ⟨h0, -⟩ | ⟨-, h⟩
  · exact absurd q h0
  clear hr q
  obtain ⟨r, hr, h⟩ := h
  have n5 : ¬ IsW T n a "weak" ∧ r = 0 ∨ IsW T n a "weak" ∧ r = 1 := by
    rcases m_is_spec wok_weak hk hr with ⟨q, hq⟩ | ⟨q, hq⟩
    · exact Or.inr ⟨hq, q⟩
    · exact Or.inl ⟨hq, q⟩
  rcases n5 with ⟨n5, q⟩ | ⟨hq, q⟩
  case inr =>
    rcases h with ⟨-, f1, u1, p1, hb, g1, g2, g3⟩ | ⟨h0, -⟩
    · exact fin f1 u1 p1 (Or.inr (Or.inr (Or.inr (Or.inr (Or.inr (Or.inl hq)))))) hb g1 g2 g3
    · rw [q] at h0; exact absurd h0 one0
  rcases h with ⟨h0, -⟩ | ⟨-, h⟩
  · exact absurd q h0
  clear hr q
  obtain ⟨r, hr, h⟩ := h
  have n6 : ¬ IsW T n a "man" ∧ r = 0 ∨ IsW T n a "man" ∧ r = 1 := by
    rcases m_is_spec wok_man hk hr with ⟨q, hq⟩ | ⟨q, hq⟩
    · exact Or.inr ⟨hq, q⟩
    · exact Or.inl ⟨hq, q⟩
  rcases n6 with ⟨n6, q⟩ | ⟨hq, q⟩
  case inr =>
    rcases h with ⟨-, f1, u1, p1, hb, g1, g2, g3⟩ | ⟨h0, -⟩
    · exact fin f1 u1 p1 (Or.inr (Or.inr (Or.inr (Or.inr (Or.inr (Or.inr (Or.inl hq))))))) hb g1 g2 g3
    · rw [q] at h0; exact absurd h0 one0
  rcases h with ⟨h0, -⟩ | ⟨-, h⟩
  · exact absurd q h0
  clear hr q
  obtain ⟨r, hr, h⟩ := h
  have n7 : ¬ IsW T n a "shows" ∧ r = 0 ∨ IsW T n a "shows" ∧ r = 1 := by
    rcases m_is_spec wok_shows hk hr with ⟨q, hq⟩ | ⟨q, hq⟩
    · exact Or.inr ⟨hq, q⟩
    · exact Or.inl ⟨hq, q⟩
  rcases n7 with ⟨n7, q⟩ | ⟨hq, q⟩
  case inr =>
    rcases h with ⟨-, f1, u1, p1, hb, g1, g2, g3⟩ | ⟨h0, -⟩
    · exact fin f1 u1 p1 (Or.inr (Or.inr (Or.inr (Or.inr (Or.inr (Or.inr (Or.inr (Or.inl hq)))))))) hb g1 g2 g3
    · rw [q] at h0; exact absurd h0 one0
  rcases h with ⟨h0, -⟩ | ⟨-, h⟩
  · exact absurd q h0
  clear hr q
  obtain ⟨r, hr, h⟩ := h
  have n8 : ¬ IsW T n a "boys" ∧ r = 0 ∨ IsW T n a "boys" ∧ r = 1 := by
    rcases m_is_spec wok_boys hk hr with ⟨q, hq⟩ | ⟨q, hq⟩
    · exact Or.inr ⟨hq, q⟩
    · exact Or.inl ⟨hq, q⟩
  rcases n8 with ⟨n8, q⟩ | ⟨hq, q⟩
  case inr =>
    rcases h with ⟨-, f1, u1, p1, hb, g1, g2, g3⟩ | ⟨h0, -⟩
    · exact fin f1 u1 p1 (Or.inr (Or.inr (Or.inr (Or.inr (Or.inr (Or.inr (Or.inr (Or.inr (Or.inl hq))))))))) hb g1 g2 g3
    · rw [q] at h0; exact absurd h0 one0
  rcases h with ⟨h0, -⟩ | ⟨-, h⟩
  · exact absurd q h0
  clear hr q
  obtain ⟨r, hr, h⟩ := h
  have n9 : ¬ IsW T n a "by" ∧ r = 0 ∨ IsW T n a "by" ∧ r = 1 := by
    rcases m_is_spec wok_by hk hr with ⟨q, hq⟩ | ⟨q, hq⟩
    · exact Or.inr ⟨hq, q⟩
    · exact Or.inl ⟨hq, q⟩
  rcases n9 with ⟨n9, q⟩ | ⟨hq, q⟩
  case inr =>
    rcases h with ⟨-, f1, u1, p1, hb, g1, g2, g3⟩ | ⟨h0, -⟩
    · exact fin f1 u1 p1 (Or.inr (Or.inr (Or.inr (Or.inr (Or.inr (Or.inr (Or.inr (Or.inr (Or.inr (Or.inl hq)))))))))) hb g1 g2 g3
    · rw [q] at h0; exact absurd h0 one0
  rcases h with ⟨h0, -⟩ | ⟨-, h⟩
  · exact absurd q h0
  clear hr q
  obtain ⟨r, hr, h⟩ := h
  have n10 : ¬ IsW T n a "seen" ∧ r = 0 ∨ IsW T n a "seen" ∧ r = 1 := by
    rcases m_is_spec wok_seen hk hr with ⟨q, hq⟩ | ⟨q, hq⟩
    · exact Or.inr ⟨hq, q⟩
    · exact Or.inl ⟨hq, q⟩
  rcases n10 with ⟨n10, q⟩ | ⟨hq, q⟩
  case inr =>
    rcases h with ⟨-, f1, u1, p1, hb, g1, g2, g3⟩ | ⟨h0, -⟩
    · exact fin f1 u1 p1 (Or.inr (Or.inr (Or.inr (Or.inr (Or.inr (Or.inr (Or.inr (Or.inr (Or.inr (Or.inr (Or.inl hq))))))))))) hb g1 g2 g3
    · rw [q] at h0; exact absurd h0 one0
  rcases h with ⟨h0, -⟩ | ⟨-, h⟩
  · exact absurd q h0
  clear hr q
  obtain ⟨r, hr, h⟩ := h
  have n11 : ¬ IsW T n a "scratch" ∧ r = 0 ∨ IsW T n a "scratch" ∧ r = 1 := by
    rcases m_is_spec wok_scratch hk hr with ⟨q, hq⟩ | ⟨q, hq⟩
    · exact Or.inr ⟨hq, q⟩
    · exact Or.inl ⟨hq, q⟩
  rcases n11 with ⟨n11, q⟩ | ⟨hq, q⟩
  case inr =>
    rcases h with ⟨h0, -⟩ | ⟨-, f1, u1, p1, hb, g1, g2, g3⟩
    · rw [q] at h0; exact absurd h0 one0
    · exact fin f1 u1 p1 (Or.inr (Or.inr (Or.inr (Or.inr (Or.inr (Or.inr (Or.inr (Or.inr (Or.inr (Or.inr (Or.inr (hq)))))))))))) hb g1 g2 g3
  rcases h with ⟨-, h⟩ | ⟨h0, -⟩
  case inr => exact absurd q h0
  rcases h with ⟨h1, f1, u1, p1, hb, g1, g2, g3⟩ | ⟨h1, g1, g2, g3⟩
  · obtain ⟨b1, b2, b3⟩ := qm_bad rfl hb
    exact Or.inr ⟨fun q => h1 (hk.2.1.trans (tm2.mpr q.1)), by rw [g1, b1], by rw [g2, b2], by rw [g3, b3]⟩
  · refine Or.inl ⟨⟨tm2.mp (hk.2.1.symm.trans h1), ?_⟩, g1, g2, g3⟩
    unfold ResW
    rintro (q | q | q | q | q | q | q | q | q | q | q | q)
    · exact n0 q
    · exact n1 q
    · exact n2 q
    · exact n3 q
    · exact n4 q
    · exact n5 q
    · exact n6 q
    · exact n7 q
    · exact n8 q
    · exact n9 q
    · exact n10 q
    · exact n11 q
/-- the name at a stands in the slot j -/
def NmAt (F T : Nat → Int32) (n a : Int32) (j : Nat) : Prop := 0 < (F (167 + j)).toInt ∧ (F (167 + j)).toInt = lnF T n a ∧ ∀ k : Nat, k < lnF T n a → F (183 + 8 * j + k) = T (a.toNatClampNeg + k)
noncomputable def findG (F T : Nat → Int32) (n a : Int32) : Nat → Nat → Int32
  | 0, _ => -1
  | f + 1, j => @ite _ (NmAt F T n a j) (Classical.propDecidable _) (nI j) (findG F T n a f (j + 1))
noncomputable def findS (F T : Nat → Int32) (n a : Int32) : Int32 := findG F T n a 16 0
theorem find_L1 {ns : Int32} {A B : Prop} : ∀ (f : Nat) (u v : Int32), R_m_findX_L1 ns A B f u v → A ∨ B := by
  intro f u v h
  cases f with
  | zero => exact h.elim
  | succ f => simp only [R_m_findX_L1] at h; rcases h with ⟨-, h⟩ | ⟨-, h⟩; exact Or.inl h; exact Or.inr h
theorem find_L2 {ns : Int32} {A B : Prop} : ∀ (f : Nat) (u v : Int32), R_m_findX_L2 ns A B f u v → A ∨ B := by
  intro f u v h
  cases f with
  | zero => exact h.elim
  | succ f => simp only [R_m_findX_L2] at h; rcases h with ⟨-, h⟩ | ⟨-, h⟩; exact Or.inl h; exact Or.inr h
theorem find_L3 {F T L : Nat → Int32} {n a ns s : Int32} {j : Nat} {κ : Int32 → Prop} {κ2 : Prop} (hs : s.toInt = j) (hj : j < 16) (h8 : lnF T n a ≤ 8) (hns : ns.toInt = lnF T n a) (hL : ∀ k : Nat, k < lnF T n a → L k = T (a.toNatClampNeg + k)) : ∀ (f : Nat) (b u : Int32) (i : Nat), u.toInt = i → i ≤ lnF T n a → ((b = 1 ∧ ∀ k : Nat, k < i → F (183 + 8 * j + k) = T (a.toNatClampNeg + k)) ∨ (b = 0 ∧ ¬ ∀ k : Nat, k < lnF T n a → F (183 + 8 * j + k) = T (a.toNatClampNeg + k))) → R_m_findX_L3 ns L F s κ κ2 f b u → (κ 1 ∧ ∀ k : Nat, k < lnF T n a → F (183 + 8 * j + k) = T (a.toNatClampNeg + k)) ∨ ((κ 0 ∨ κ2) ∧ ¬ ∀ k : Nat, k < lnF T n a → F (183 + 8 * j + k) = T (a.toNatClampNeg + k)) := by
  intro f
  induction f with
  | zero => intro b u i _ _ _ h; exact h.elim
  | succ f ih =>
    intro b u i hi hi2 hb h
    simp only [R_m_findX_L3] at h
    rcases h with ⟨h1, h⟩ | ⟨h1, h⟩
    · rw [le_I] at h1
      rcases hb with ⟨rfl, hb⟩ | ⟨rfl, hb⟩
      · exact Or.inl ⟨h, fun k hk => hb k (by omega)⟩
      · exact Or.inr ⟨Or.inl h, hb⟩
    · rw [le_I] at h1
      rw [ofI1] at h
      rcases h with ⟨h2, h⟩ | h
      · rcases hb with ⟨q, -⟩ | ⟨-, hb⟩
        · rw [h2] at q; exact absurd q (by decide)
        · exact Or.inr ⟨Or.inr h, hb⟩
      · refine exA1 h ?_
        clear h
        intro h2 h
        refine exE1 h ?_
        clear h
        intro z1 hz1 h
        refine exE1 h ?_
        clear h
        intro z2 hz2 h
        refine exE1 h ?_
        clear h
        intro z3 hz3 h
        refine exE1 h ?_
        clear h
        intro z4 hz4 h
        refine exE1 h ?_
        clear h
        intro z5 hz5 h
        have hb' : ∀ k : Nat, k < i → F (183 + 8 * j + k) = T (a.toNatClampNeg + k) := by
          rcases hb with ⟨-, hb⟩ | ⟨q, -⟩
          · exact hb
          · exact absurd q h2
        have e1 : z1.toInt = 8 * s.toInt := in_mul hz1 (by decide) (by decide) (show IV s 0 15 from ⟨by omega, by omega⟩) (by decide) (by decide)
        have e2 := in_add hz2 (show IV 183 183 183 from (by decide)) (show IV z1 0 120 from ⟨by omega, by omega⟩) (by decide) (by decide)
        have e183 : (183 : Int32).toInt = 183 := by decide
        have e3 := in_add hz3 (show IV z2 183 303 from ⟨by omega, by omega⟩) (show IV u 0 8 from ⟨by omega, by omega⟩) (by decide) (by decide)
        have en : z3.toNatClampNeg = 183 + 8 * j + i := by have := tn_i (z := z3) (by omega); omega
        have eu : u.toNatClampNeg = i := by have := tn_i (z := u) (by omega); omega
        have eu1 := inc1 (u := u) (z := u + 1) (a := 0) (b := 900) ⟨by omega, by omega⟩ (by omega) (by omega) rfl
        have e4 : z4 = F (183 + 8 * j + i) := by rw [hz4, en]
        have e5 : z5 = T (a.toNatClampNeg + i) := by rw [hz5, eu]; exact hL i (by omega)
        rcases h with ⟨h3, z, hz, h⟩ | ⟨h3, z, hz, h⟩
        · subst hz
          exact ih 0 (u + 1) (i + 1) (by omega) (by omega) (Or.inr ⟨rfl, fun q => h3 (by rw [e4, e5]; exact q i (by omega))⟩) h
        · subst hz
          refine ih 1 (u + 1) (i + 1) (by omega) (by omega) (Or.inl ⟨rfl, fun k hk => ?_⟩) h
          by_cases q : k = i
          · subst q; rw [← e4, h3, e5]
          · exact hb' k (by omega)
theorem find_L0 {F T L : Nat → Int32} {n a ns r : Int32} (h8 : lnF T n a ≤ 8) (hns : ns.toInt = lnF T n a) (hL : ∀ k : Nat, k < lnF T n a → L k = T (a.toNatClampNeg + k)) : ∀ (f : Nat) (u : Int32) (j g : Nat), u.toInt = j → j + g = 16 → R_m_findX_L0 ns L F r (r = -1) f u → r = findG F T n a g j := by
  intro f
  induction f with
  | zero => intro u j g _ _ h; exact h.elim
  | succ f ih =>
    intro u j g hj hg h
    have e16 : (16 : Int32).toInt = 16 := by decide
    simp only [R_m_findX_L0] at h
    rcases h with ⟨h1, h⟩ | ⟨h1, z1, hz1, z2, hz2, h⟩
    · rw [le_I, e16] at h1
      obtain rfl : g = 0 := by omega
      exact h
    · rw [le_I, e16] at h1
      obtain ⟨g, rfl⟩ : ∃ k, g = k + 1 := ⟨g - 1, by omega⟩
      have e167 : (167 : Int32).toInt = 167 := by decide
      have e1 := in_add hz1 (show IV 167 167 167 from (by decide)) (show IV u 0 15 from ⟨by omega, by omega⟩) (by decide) (by decide)
      have en : z1.toNatClampNeg = 167 + j := by have := tn_i (z := z1) (by omega); omega
      rw [en] at hz2
      have eu1 := inc1 (u := u) (z := u + 1) (a := 0) (b := 900) ⟨by omega, by omega⟩ (by omega) (by omega) rfl
      have no : ¬ NmAt F T n a j → (∃ z : Int32, u + Int32.ofInt 1 = z ∧ R_m_findX_L0 ns L F r (r = -1) f z) → r = findG F T n a (g + 1) j := by
        rintro hno ⟨z, hz, h⟩
        rw [ofI1] at hz
        subst hz
        rw [findG, if_neg hno]
        exact ih (u + 1) (j + 1) g (by omega) (by omega) h
      rcases h with ⟨h2, m, h⟩ | ⟨h2, h⟩
      · rw [le_I, zI, hz2] at h2
        have hno : ¬ NmAt F T n a j := fun q => by have := q.1; omega
        rcases find_L1 m 0 0 h with h | h <;> exact no hno h
      · rw [le_I, zI, hz2] at h2
        rcases h with ⟨h3, m, h⟩ | ⟨h3, m, h⟩
        · have hno : ¬ NmAt F T n a j := fun q => h3 (Int32.toInt_inj.mp (by rw [hz2, hns]; exact q.2.1))
          rcases find_L2 m 0 0 h with h | h <;> exact no hno h
        · have e3 : (F (167 + j)).toInt = lnF T n a := by rw [← hz2, h3, hns]
          rcases find_L3 (j := j) hj (by omega) h8 hns hL m 1 0 0 (by decide) (by omega) (Or.inl ⟨rfl, fun k hk => by omega⟩) h with ⟨h, q⟩ | ⟨h, q⟩
          · rcases h with ⟨h4, -⟩ | ⟨-, h⟩
            · exact absurd h4 one0
            · rw [findG, if_pos ⟨by omega, e3, q⟩, h]
              apply Int32.toInt_inj.mp
              rw [hj, nIt (by omega)]
          · have hno : ¬ NmAt F T n a j := fun w => q w.2.2
            rcases h with (⟨-, h⟩ | ⟨h4, -⟩) | h
            · exact no hno h
            · exact absurd rfl h4
            · exact no hno h
theorem qm_find {F T L : Nat → Int32} {n a en tk wh ns r : Int32} (hn : IV n 0 900) (ha : IV a 0 900) (hk : TokM T n a en tk wh ns L) (h1 : tkF T n a = 1) (h : R_m_findX ns L F r) : r = findS F T n a := by
  obtain ⟨q, i, hi, h8, hi1, hl, he⟩ := tk1_inv hn ha h1
  obtain ⟨g1, g2⟩ := hk.2.2.1 h1
  simp only [R_m_findX] at h
  obtain ⟨f, h⟩ := h
  exact find_L0 (by omega) g1 g2 f 0 0 16 (by decide) (by decide) h
theorem findG_iv {F T : Nat → Int32} {n a : Int32} : ∀ g j : Nat, j + g = 16 → IV (findG F T n a g j) (-1) 15 := by
  intro g
  induction g with
  | zero => intro j _; rw [findG]; decide
  | succ g ih =>
    intro j hj
    rw [findG]
    by_cases q : NmAt F T n a j
    · rw [if_pos q, IV, nIt (by omega)]; omega
    · rw [if_neg q]; exact ih (j + 1) (by omega)
theorem findS_iv {F T : Nat → Int32} {n a : Int32} : IV (findS F T n a) (-1) 15 := findG_iv 16 0 (by decide)
/-- the letters of the name at a written into the slot s -/
def wrL (F T : Nat → Int32) (a s : Nat) : Nat → (Nat → Int32)
  | 0 => F
  | k + 1 => upd (wrL F T a s k) (183 + 8 * s + k) (T (a + k))
def wrN (F T : Nat → Int32) (n a : Int32) (s : Nat) : Nat → Int32 := upd (wrL F T a.toNatClampNeg s (lnF T n a)) (167 + s) (nI (lnF T n a))
theorem new_L0 {F T L : Nat → Int32} {n a ns p : Int32} {s : Nat} {κ : (Nat → Int32) → Prop} (hs : p.toInt = s) (hs2 : s < 16) (h8 : lnF T n a ≤ 8) (hns : ns.toInt = lnF T n a) (hL : ∀ k : Nat, k < lnF T n a → L k = T (a.toNatClampNeg + k)) : ∀ (f : Nat) (G : Nat → Int32) (u : Int32) (i : Nat), u.toInt = i → i ≤ lnF T n a → G = wrL F T a.toNatClampNeg s i → R_m_newNameX_L0 p ns L κ f G u → κ (wrL F T a.toNatClampNeg s (lnF T n a)) := by
  intro f
  induction f with
  | zero => intro G u i _ _ _ h; exact h.elim
  | succ f ih =>
    intro G u i hi hi2 hG h
    simp only [R_m_newNameX_L0] at h
    rcases h with ⟨h1, h⟩ | h
    · rw [le_I] at h1
      obtain rfl : i = lnF T n a := by omega
      rw [← hG]; exact h
    · refine exA1 h ?_
      clear h
      intro h1 h
      refine exE1 h ?_
      clear h
      intro z1 hz1 h
      refine exE1 h ?_
      clear h
      intro z2 hz2 h
      refine exE1 h ?_
      clear h
      intro z3 hz3 h
      refine exE1 h ?_
      clear h
      intro z4 hz4 h
      refine exE1 h ?_
      clear h
      intro G2 hG2 h
      refine exE1 h ?_
      clear h
      intro z5 hz5 h
      rw [le_I] at h1
      rw [ofI1] at hz5
      have e1 : z1.toInt = 8 * p.toInt := in_mul hz1 (by decide) (by decide) (show IV p 0 15 from ⟨by omega, by omega⟩) (by decide) (by decide)
      have e183 : (183 : Int32).toInt = 183 := by decide
      have e2 := in_add hz2 (show IV 183 183 183 from (by decide)) (show IV z1 0 120 from ⟨by omega, by omega⟩) (by decide) (by decide)
      have e3 := in_add hz3 (show IV z2 183 303 from ⟨by omega, by omega⟩) (show IV u 0 8 from ⟨by omega, by omega⟩) (by decide) (by decide)
      have en : z3.toNatClampNeg = 183 + 8 * s + i := by have := tn_i (z := z3) (by omega); omega
      have eu : u.toNatClampNeg = i := by have := tn_i (z := u) (by omega); omega
      have eu1 := inc1 (u := u) (z := u + 1) (a := 0) (b := 900) ⟨by omega, by omega⟩ (by omega) (by omega) rfl
      subst hz5
      refine ih G2 (u + 1) (i + 1) (by omega) (by omega) ?_ h
      rw [hG2, en, hz4, eu, hL i (by omega), hG]
      rfl
noncomputable def newS (F T : Nat → Int32) (n : Int32) (s : Nat) (a : Int32) : Rs ((Nat → Int32) × Int32) := @ite _ (NameOk T n a) (Classical.propDecidable _) (if findS F T n a < 0 then .inr (wrN F T n a s, nx T n a) else .inl (3, a)) (.inl (1, a))
noncomputable def oldS (F T : Nat → Int32) (n lo hi : Int32) (a : Int32) : Rs Int32 := @ite _ (NameOk T n a) (Classical.propDecidable _) (if findS F T n a < lo then .inl (2, a) else if hi < findS F T n a then .inl (2, a) else .inr (findS F T n a - lo)) (.inl (1, a))
def MF (T : Nat → Int32) (n : Int32) (F0 : Nat → Int32) (σ : Rs ((Nat → Int32) × Int32)) (at_ en fd ft : Int32) (F2 L : Nat → Int32) (ns pl tk wh : Int32) : Prop := match σ with
  | .inl e => MS T n (.inl e) at_ en fd ft L ns pl tk wh
  | .inr v => F2 = v.1 ∧ MS T n (.inr v.2) at_ en fd ft L ns pl tk wh
theorem qm_newName {F T L F2 L2 : Nat → Int32} {n p a en fd ft ns pl tk wh at2 en2 fd2 ft2 ns2 pl2 tk2 wh2 : Int32} {s : Nat} (hn : IV n 0 900) (hs : p.toInt = s) (hs2 : s < 16) (hm : MS T n (.inr a) a en fd ft L ns pl tk wh) (h : R_m_newNameX p n a en tk wh ns ft pl fd T L F at2 en2 fd2 ft2 F2 L2 ns2 pl2 tk2 wh2) : MF T n F (newS F T n s a) at2 en2 fd2 ft2 F2 L2 ns2 pl2 tk2 wh2 := by
  obtain ⟨s1, s2, -, s4, s5⟩ := hm
  simp only [R_m_newNameX] at h
  unfold newS
  rcases h with ⟨-, f1, u1, p1, hmn, h⟩ | ⟨h0, -⟩
  · rw [s1] at hmn
    rcases qm_mustName s5 hmn with ⟨ok, e1, e2, e3⟩ | ⟨no, e1, e2, e3⟩
    · rw [if_pos ok]
      rcases h with ⟨h0, -⟩ | ⟨-, r, hr, h⟩
      · exact absurd e1 h0
      · have er := qm_find hn s4 s5 ok.1 hr
        rcases h with ⟨h1, f, h⟩ | h
        · rw [er] at h1
          rw [if_pos h1]
          obtain ⟨q, i, hi, h8, hi1, hl, he⟩ := tk1_inv hn s4 ok.1
          obtain ⟨g1, g2⟩ := s5.2.2.1 ok.1
          obtain ⟨z1, hz1, G, hG, a2, n2, M2, m2, t2, w2, hx, k1, k2, k3, k4, k5, k6, k7, k8, k9, k10⟩ := new_L0 (n := n) (a := a) hs hs2 (by omega) g1 g2 f F 0 0 (by decide) (by omega) rfl h
          obtain ⟨x1, x2, x3⟩ := qm_next_at hn s4 s5 hx
          have e167 : (167 : Int32).toInt = 167 := by decide
          have ez := in_add hz1 (show IV 167 167 167 from (by decide)) (show IV p 0 15 from ⟨by omega, by omega⟩) (by decide) (by decide)
          have en' : z1.toNatClampNeg = 167 + s := by have := tn_i (z := z1) (by omega); omega
          have ens : ns = nI (lnF T n a) := Int32.toInt_inj.mp (by rw [g1, nIt (by omega)])
          subst k1 k2 k6 k7 k9 k10
          exact ⟨by rw [k5, hG, en', ens]; rfl, by rw [k3, e1], by rw [k4, e2, s2], x1, x2, x3⟩
        · refine exA1 h ?_
          clear h
          intro h1 h
          refine exE3 h ?_
          clear h
          intro f2 u2 p2 hb h
          refine exA9 h ?_
          clear h
          intro k1 k2 k3 k4 k5 k6 k7 k8 k9 k10
          rw [er] at h1
          rw [if_neg h1]
          obtain ⟨b1, b2, b3⟩ := qm_bad e1 hb
          exact ⟨by rw [k3, b1], by rw [k4, b2], by rw [k8, b3]⟩
    · rw [if_neg no]
      rcases h with h | ⟨h0, -⟩
      · refine exA10 h ?_
        clear h
        intro zn0 k1 k2 k3 k4 k5 k6 k7 k8 k9 k10
        clear zn0
        exact ⟨by rw [k3, e1], by rw [k4, e2], by rw [k8, e3]⟩
      · rw [e1] at h0; exact absurd h0 one0
  · exact absurd s1 h0
theorem qm_namedR {F T L : Nat → Int32} {n a en ft ns pl tk wh fd fd2 ft2 pl2 r : Int32} (hn : IV n 0 900) (ha : IV a 0 900) (h0 : fd = 0) (hk : TokM T n a en tk wh ns L) (h : R_m_namedRX a tk ns ft pl fd L F fd2 ft2 pl2 r) : (∃ f : Int32, oldS F T n 0 7 a = .inl (f, a) ∧ fd2 = 1 ∧ ft2 = f ∧ pl2 = a) ∨ (oldS F T n 0 7 a = .inr r ∧ fd2 = 0 ∧ ft2 = ft ∧ pl2 = pl) := by
  simp only [R_m_namedRX] at h
  unfold oldS
  rcases h with ⟨-, f1, u1, p1, hmn, h⟩ | ⟨h1, -⟩
  · rw [h0] at hmn
    rcases qm_mustName hk hmn with ⟨ok, e1, e2, e3⟩ | ⟨no, e1, e2, e3⟩
    · rw [if_pos ok]
      rcases h with ⟨-, r1, hr, r2, hi, h⟩ | ⟨h1, -⟩
      · have er := qm_find hn ha hk ok.1 hr
        rw [er] at hi h
        rcases qm_in hi with ⟨q, hq⟩ | ⟨q, q1, q2⟩
        · rcases h with ⟨h2, -⟩ | h
          · exact absurd q h2
          · refine exA1 h ?_
            clear h
            intro zn0 h
            refine exE3 h ?_
            clear h
            intro f2 u2 p2 hb h
            refine exA3 h ?_
            clear h
            intro k1 k2 k3 k4
            clear zn0
            obtain ⟨b1, b2, b3⟩ := qm_bad e1 hb
            refine Or.inl ⟨2, ?_, by rw [k1, b1], by rw [k2, b2], by rw [k3, b3]⟩
            by_cases ql : findS F T n a < 0
            · rw [if_pos ql]
            · rw [if_neg ql, if_pos (hq.resolve_left ql)]
        · rcases h with ⟨-, z, hz, k1, k2, k3, k4⟩ | ⟨h2, -⟩
          · refine Or.inr ⟨?_, by rw [k1, e1], by rw [k2, e2], by rw [k3, e3]⟩
            rw [if_neg q1, if_neg q2, k4, hz]
          · rw [q] at h2; exact absurd h2 one0
      · exact absurd e1 h1
    · rw [if_neg no]
      rcases h with ⟨h1, -⟩ | ⟨-, k1, k2, k3, k4⟩
      · rw [e1] at h1; exact absurd h1 one0
      · exact Or.inl ⟨1, rfl, by rw [k1, e1], by rw [k2, e2], by rw [k3, e3]⟩
  · exact absurd h0 h1
theorem qm_namedT {F T L : Nat → Int32} {n a en ft ns pl tk wh fd fd2 ft2 pl2 r : Int32} (hn : IV n 0 900) (ha : IV a 0 900) (h0 : fd = 0) (hk : TokM T n a en tk wh ns L) (h : R_m_namedTX a tk ns ft pl fd L F fd2 ft2 pl2 r) : (∃ f : Int32, oldS F T n 8 11 a = .inl (f, a) ∧ fd2 = 1 ∧ ft2 = f ∧ pl2 = a) ∨ (oldS F T n 8 11 a = .inr r ∧ fd2 = 0 ∧ ft2 = ft ∧ pl2 = pl) := by
  simp only [R_m_namedTX] at h
  unfold oldS
  rcases h with ⟨-, f1, u1, p1, hmn, h⟩ | ⟨h1, -⟩
  · rw [h0] at hmn
    rcases qm_mustName hk hmn with ⟨ok, e1, e2, e3⟩ | ⟨no, e1, e2, e3⟩
    · rw [if_pos ok]
      rcases h with ⟨-, r1, hr, r2, hi, h⟩ | ⟨h1, -⟩
      · have er := qm_find hn ha hk ok.1 hr
        rw [er] at hi h
        rcases qm_in hi with ⟨q, hq⟩ | ⟨q, q1, q2⟩
        · rcases h with ⟨h2, -⟩ | h
          · exact absurd q h2
          · refine exA1 h ?_
            clear h
            intro zn0 h
            refine exE3 h ?_
            clear h
            intro f2 u2 p2 hb h
            refine exA3 h ?_
            clear h
            intro k1 k2 k3 k4
            clear zn0
            obtain ⟨b1, b2, b3⟩ := qm_bad e1 hb
            refine Or.inl ⟨2, ?_, by rw [k1, b1], by rw [k2, b2], by rw [k3, b3]⟩
            by_cases ql : findS F T n a < 8
            · rw [if_pos ql]
            · rw [if_neg ql, if_pos (hq.resolve_left ql)]
        · rcases h with ⟨-, z, hz, k1, k2, k3, k4⟩ | ⟨h2, -⟩
          · refine Or.inr ⟨?_, by rw [k1, e1], by rw [k2, e2], by rw [k3, e3]⟩
            rw [if_neg q1, if_neg q2, k4, hz]
          · rw [q] at h2; exact absurd h2 one0
      · exact absurd e1 h1
    · rw [if_neg no]
      rcases h with ⟨h1, -⟩ | ⟨-, k1, k2, k3, k4⟩
      · rw [e1] at h1; exact absurd h1 one0
      · exact Or.inl ⟨1, rfl, by rw [k1, e1], by rw [k2, e2], by rw [k3, e3]⟩
  · exact absurd h0 h1
