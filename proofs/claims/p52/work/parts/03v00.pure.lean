set_option maxRecDepth 100000
set_option maxHeartbeats 4000000
theorem orI {c A B : Prop} [Decidable c] : ((c ∧ A) ∨ (¬ c ∧ B)) = (if c then A else B) := by
  by_cases h : c <;> simp [h]
theorem orN {c A B : Prop} [Decidable c] : ((¬ c ∧ A) ∨ (c ∧ B)) = (if c then B else A) := by
  by_cases h : c <;> simp [h]
theorem orE {x y : Int32} {A B : Prop} : ((x ≠ y ∧ A) ∨ (x = y ∧ B)) = (if x = y then B else A) := by
  by_cases h : x = y <;> simp [h]
theorem iteR {c : Prop} [Decidable c] {r a b : Int32} : (if c then r = a else r = b) = (r = if c then a else b) := by
  by_cases h : c <;> simp [h]
def sx (x : Int32) : Int32 := x.toInt8.toInt32
def TpR (tp T : Nat → Int32) : Prop := ∀ i : Nat, i < 900 → IV (T i) 0 255 ∧ tp i = sx (T i)
def kc (c : Int32) : Int32 := if c = -1 then 0 else if c < 97 then (if c < 48 then (if c = 32 then 5 else if c = 44 then 4 else 6) else if 57 < c then (if c = 59 then 3 else 6) else 2) else if 122 < c then 6 else 1
def kz (z : Int32) : Int32 := if z < 97 then (if z < 48 then (if z = 32 then 5 else if z = 44 then 4 else if z = 59 then 3 else 6) else if 57 < z then (if z = 32 then 5 else if z = 44 then 4 else if z = 59 then 3 else 6) else 2) else if 122 < z then (if z = 32 then 5 else if z = 44 then 4 else if z = 59 then 3 else 6) else 1
theorem kz_kc : ∀ j : Nat, j < 256 → kz (sx (Int32.ofNat j)) = kc (Int32.ofNat j) := by decide +kernel
theorem ofI {x : Int32} {n : Nat} (h : IV x 0 n) (hn : n < 2147483648) : ∃ j : Nat, j ≤ n ∧ x = Int32.ofNat j := by
  refine ⟨x.toInt.toNat, by omega, ?_⟩
  apply Int32.toInt_inj.mp
  rw [Int32.toInt_ofNat_of_lt (by omega)]
  omega
theorem kz_of {x : Int32} (h : IV x 0 255) : kz (sx x) = kc x := by
  obtain ⟨j, hj, rfl⟩ := ofI (n := 255) h (by decide)
  exact kz_kc j (by omega)
theorem x_kindAt_spec {p n r : Int32} {tp T : Nat → Int32} (h : R_x_kindAtX p n tp r) (hp : IV p 0 900) (hn : IV n 0 900) (ht : TpR tp T) : r = kc (lookF T n p) := by
  simp only [R_x_kindAtX, orI, orN, orE, exists_eq_left] at h
  have h0 : ¬ p < 0 := by rw [lt_I, zI]; omega
  rw [if_neg h0] at h
  unfold lookF
  by_cases hpn : p < n
  · have h1 : ¬ n ≤ p := by rw [le_I]; rw [lt_I] at hpn; omega
    rw [if_neg h1] at h
    have h9 : p.toInt < 900 := by rw [lt_I] at hpn; omega
    have h2 : p < 900 := by rw [lt_I]; exact h9
    rw [if_pos h2] at h
    have hi : p.toNatClampNeg < 900 := by have := tn_i hp.1; omega
    obtain ⟨hT, he⟩ := ht _ hi
    rw [he] at h
    rw [if_pos hpn, ← kz_of hT]
    simp only [iteR] at h
    exact h
  · have h1 : n ≤ p := by rw [le_I]; rw [lt_I] at hpn; omega
    rw [if_pos h1] at h
    rw [if_neg hpn]
    exact h
theorem m_look_spec {p n r : Int32} {T : Nat → Int32} (h : R_m_lookX p n T r) : r = lookF T n p := by
  simp only [R_m_lookX, orI, orN, orE, exists_eq_left] at h
  unfold lookF
  split at h
  · rename_i q
    rw [if_neg (Int32.not_lt.mpr q)]; exact h
  · rename_i q
    rw [if_pos (Int32.not_le.mp q)]; exact h

theorem kc5 {c : Int32} : kc c = 5 ↔ c = 32 := by
  constructor
  · intro h; unfold kc at h
    repeat' split at h
    all_goals first | assumption | (exact absurd h (by decide))
  · rintro rfl; decide
theorem kc0 {c : Int32} : kc c = 0 ↔ c = -1 := by
  constructor
  · intro h; unfold kc at h
    repeat' split at h
    all_goals first | assumption | (exact absurd h (by decide))
  · rintro rfl; decide
theorem kc3 {c : Int32} : kc c = 3 ↔ c = 59 := by
  constructor
  · intro h; unfold kc at h
    repeat' split at h
    all_goals first | assumption | (exact absurd h (by decide))
  · rintro rfl; decide
theorem kc4 {c : Int32} : kc c = 4 ↔ c = 44 := by
  constructor
  · intro h; unfold kc at h
    repeat' split at h
    all_goals first | assumption | (exact absurd h (by decide))
  · rintro rfl; decide
theorem n97 : (97 : Int32).toInt = 97 := by decide
theorem n122 : (122 : Int32).toInt = 122 := by decide
theorem n48 : (48 : Int32).toInt = 48 := by decide
theorem n57 : (57 : Int32).toInt = 57 := by decide
theorem nm1 : (-1 : Int32).toInt = -1 := by decide
theorem kc1 {c : Int32} : kc c = 1 ↔ IV c 97 122 := by
  constructor
  · intro h; unfold kc at h
    repeat' split at h
    all_goals first | (exact absurd h (by decide)) | skip
    rename_i q1 q2 q3
    rw [lt_I, n97] at q2
    rw [lt_I, n122] at q3
    exact ⟨by omega, by omega⟩
  · intro h
    unfold kc
    rw [if_neg (fun q => by rw [q, IV, nm1] at h; omega), if_neg (by rw [lt_I, n97]; omega), if_neg (by rw [lt_I, n122]; omega)]
theorem kc2 {c : Int32} : kc c = 2 ↔ IV c 48 57 := by
  constructor
  · intro h; unfold kc at h
    repeat' split at h
    all_goals first | (exact absurd h (by decide)) | skip
    rename_i q1 q2 q3 q4
    rw [lt_I, n48] at q3
    rw [lt_I, n57] at q4
    exact ⟨by omega, by omega⟩
  · intro h
    unfold kc
    rw [if_neg (fun q => by rw [q, IV, nm1] at h; omega), if_pos (by rw [lt_I, n97]; omega), if_neg (by rw [lt_I, n48]; omega), if_neg (by rw [lt_I, n57]; omega)]
theorem look_in {T : Nat → Int32} {n p : Int32} (h : kc (lookF T n p) ≠ 0) : p.toInt < n.toInt ∧ lookF T n p = T p.toNatClampNeg := by
  unfold lookF at h ⊢
  by_cases q : p < n
  · rw [if_pos q]; exact ⟨lt_I.mp q, rfl⟩
  · rw [if_neg q] at h; exact absurd (by decide) h
theorem inc1 {u z : Int32} {a b : Int} (hu : IV u a b) (h1 : -2147483648 ≤ a) (h2 : b ≤ 2147483646) (e : z = u + 1) : z.toInt = u.toInt + 1 := in_add e hu (show IV 1 1 1 from (by decide)) (by omega) (by omega)
theorem ofI1 : Int32.ofInt 1 = 1 := by decide
/-- the end of the run of bytes of the kind k from u on -/
def rnF (T : Nat → Int32) (n k : Int32) : Nat → Int32 → Int32
  | 0, u => u
  | f + 1, u => if kc (lookF T n u) = k then rnF T n k f (u + 1) else u
def rn (T : Nat → Int32) (n k u : Int32) : Int32 := rnF T n k (901 - u.toInt).toNat u
theorem rn_stop {T : Nat → Int32} {n k u : Int32} (h : kc (lookF T n u) ≠ k) : rn T n k u = u := by
  unfold rn
  cases (901 - u.toInt).toNat with
  | zero => rfl
  | succ f => rw [rnF, if_neg h]
theorem rn_step {T : Nat → Int32} {n k u : Int32} (hn : IV n 0 900) (hu : 0 ≤ u.toInt) (hk : k ≠ 0) (h : kc (lookF T n u) = k) : u.toInt < n.toInt ∧ rn T n k u = rn T n k (u + 1) := by
  obtain ⟨h1, -⟩ := look_in (T := T) (n := n) (p := u) (by rw [h]; exact hk)
  have e := inc1 (u := u) (z := u + 1) (a := 0) (b := 900) ⟨hu, by omega⟩ (by omega) (by omega) rfl
  refine ⟨h1, ?_⟩
  unfold rn
  rw [e, show (901 - u.toInt).toNat = (901 - (u.toInt + 1)).toNat + 1 by omega, rnF, if_pos h]
theorem rn_iv {T : Nat → Int32} {n k : Int32} (hn : IV n 0 900) (hk : k ≠ 0) : ∀ (f : Nat) (u : Int32), (900 - u.toInt).toNat = f → IV u 0 900 → u.toInt ≤ (rn T n k u).toInt ∧ (rn T n k u).toInt ≤ 900 := by
  intro f
  induction f with
  | zero =>
    intro u hf hu
    rw [rn_stop (fun q => by have := (rn_step hn hu.1 hk q).1; omega)]
    omega
  | succ f ih =>
    intro u hf hu
    by_cases q : kc (lookF T n u) = k
    · obtain ⟨h1, h2⟩ := rn_step hn hu.1 hk q
      have e := inc1 (u := u) (z := u + 1) (a := 0) (b := 900) hu (by omega) (by omega) rfl
      rw [h2]
      have := ih (u + 1) (by omega) ⟨by omega, by omega⟩
      omega
    · rw [rn_stop q]; omega
theorem rn_ge {T : Nat → Int32} {n k u : Int32} (hn : IV n 0 900) (hk : k ≠ 0) (hu : IV u 0 900) : u.toInt ≤ (rn T n k u).toInt ∧ (rn T n k u).toInt ≤ 900 := rn_iv hn hk _ u rfl hu
theorem m_skip {T : Nat → Int32} {n : Int32} {κ : Int32 → Prop} (hn : IV n 0 900) : ∀ (f : Nat) (u : Int32), IV u 0 900 → R_m_nextX_L0 n T κ f u → κ (rn T n 5 u) := by
  intro f
  induction f with
  | zero => intro u _ h; exact h.elim
  | succ f ih =>
    intro u hu h
    simp only [R_m_nextX_L0] at h
    obtain ⟨r, hr, h⟩ := h
    have e := m_look_spec hr
    rcases h with ⟨h1, h⟩ | ⟨h1, z, hz, h⟩
    · rw [rn_stop (fun q => h1 (e.trans (kc5.mp q)))]; exact h
    · have q : kc (lookF T n u) = 5 := kc5.mpr (e.symm.trans h1)
      obtain ⟨g1, g2⟩ := rn_step hn hu.1 (by decide) q
      rw [ofI1] at hz
      subst hz
      have e := inc1 (u := u) (z := u + 1) (a := 0) (b := 900) hu (by omega) (by omega) rfl
      rw [g2]
      exact ih _ ⟨by omega, by omega⟩ h
theorem x_skip {T tp : Nat → Int32} {n : Int32} {κ κ2 : Int32 → Prop} (hn : IV n 0 900) (ht : TpR tp T) : ∀ (f : Nat) (u : Int32), IV u 0 900 → R_x_nextX_L0 n tp κ κ2 f u → κ (rn T n 5 u) ∨ κ2 (rn T n 5 u) := by
  intro f
  induction f with
  | zero => intro u _ h; exact h.elim
  | succ f ih =>
    intro u hu h
    simp only [R_x_nextX_L0] at h
    rcases h with ⟨h1, h⟩ | ⟨h1, r, hr, h⟩
    · rw [rn_stop (fun q => by have := (rn_step hn hu.1 (by decide) q).1; rw [le_I] at h1; omega)]; exact Or.inl h
    · have e := x_kindAt_spec hr hu hn ht
      rcases h with ⟨h2, h⟩ | ⟨h2, z, hz, h⟩
      · rw [rn_stop (fun q => h2 (e.trans q))]; exact Or.inr h
      · obtain ⟨g1, g2⟩ := rn_step hn hu.1 (by decide) (e.symm.trans h2)
        subst hz
        have e := inc1 (u := u) (z := u + 1) (a := 0) (b := 900) hu (by omega) (by omega) rfl
        rw [g2]
        exact ih _ ⟨by omega, by omega⟩ h

/-- the value and the letters of the k bytes from a on, as the class reckons them -/
def vlF (T : Nat → Int32) (a : Nat) : Nat → Int32
  | 0 => 0
  | k + 1 => vlF T a k * 10 + (T (a + k) - 48)
def enF (T : Nat → Int32) (a : Nat) : Nat → Int64
  | 0 => 0
  | k + 1 => enF T a k * 27 + ((T (a + k) - 97) + 1).toInt64
theorem sx_lo : ∀ j : Nat, j < 128 → sx (Int32.ofNat j) = Int32.ofNat j := by decide +kernel
theorem sx_id {x : Int32} (h : IV x 0 127) : sx x = x := by
  obtain ⟨j, hj, rfl⟩ := ofI (n := 127) h (by decide)
  exact sx_lo j (by omega)
theorem tp_at {T tp : Nat → Int32} {n u k : Int32} (ht : TpR tp T) (hn : IV n 0 900) (hu : IV u 0 900) (hk : k = 1 ∨ k = 2) (h : kc (lookF T n u) = k) : tp u.toNatClampNeg = T u.toNatClampNeg := by
  obtain ⟨h1, h2⟩ := look_in (T := T) (n := n) (p := u) (by rw [h]; rcases hk with rfl | rfl <;> decide)
  have hi : u.toNatClampNeg < 900 := by have := tn_i hu.1; omega
  obtain ⟨-, he⟩ := ht _ hi
  rw [he]
  apply sx_id
  rw [← h2]
  rcases hk with rfl | rfl
  · have := kc1.mp h; exact ⟨by omega, by omega⟩
  · have := kc2.mp h; exact ⟨by omega, by omega⟩
theorem x_run1 {T tp : Nat → Int32} {n k a : Int32} {κ κ2 : Int32 → Int32 → Int64 → Prop} (hn : IV n 0 900) (ht : TpR tp T) (hk : k = 1 ∨ k = 2) (ha : 0 ≤ a.toInt) : ∀ (f : Nat) (u v : Int32) (l : Int64) (j : Nat), IV u 0 900 → u.toInt = a.toInt + j → v = vlF T a.toNatClampNeg j → l = enF T a.toNatClampNeg j → R_x_nextX_L1 n tp k κ κ2 f u v l → ∃ i : Nat, (rn T n k u).toInt = a.toInt + i ∧ (κ (rn T n k u) (vlF T a.toNatClampNeg i) (enF T a.toNatClampNeg i) ∨ κ2 (rn T n k u) (vlF T a.toNatClampNeg i) (enF T a.toNatClampNeg i)) := by
  have hk0 : k ≠ 0 := by rcases hk with rfl | rfl <;> decide
  intro f
  induction f with
  | zero => intro u v l j _ _ _ _ h; exact h.elim
  | succ f ih =>
    intro u v l j hu hj hv hl h
    simp only [R_x_nextX_L1] at h
    rcases h with ⟨h1, h⟩ | ⟨h1, r, hr, h⟩
    · rw [rn_stop (fun q => by have := (rn_step hn hu.1 hk0 q).1; rw [le_I] at h1; omega)]
      refine ⟨j, hj, Or.inl ?_⟩
      rw [← hv, ← hl]; exact h
    · have e := x_kindAt_spec hr hu hn ht
      rcases h with ⟨h2, h⟩ | ⟨h2, y1, hy1, z1, hz1, z2, hz2, z3, hz3, y2, hy2, y3, hy3, z4, hz4, z5, hz5, z6, hz6, z7, hz7, z8, hz8, h⟩
      · rw [rn_stop (fun q => h2 (e.trans q))]
        refine ⟨j, hj, Or.inr ?_⟩
        rw [← hv, ← hl]; exact h
      · have q := e.symm.trans h2
        obtain ⟨g1, g2⟩ := rn_step hn hu.1 hk0 q
        have et := tp_at ht hn hu hk q
        have eu := inc1 (u := u) (z := u + 1) (a := 0) (b := 900) hu (by omega) (by omega) rfl
        have ei : u.toNatClampNeg = a.toNatClampNeg + j := by have := tn_i hu.1; have := tn_i ha; omega
        rw [g2]
        subst hz8
        refine ih (u + 1) z7 y3 (j + 1) ⟨by omega, by omega⟩ (by omega) ?_ ?_ h
        · rw [hz7, hz4, hz6, hz5, et, ei, hv]; rfl
        · rw [hy3, hy1, hy2, hz3, hz2, hz1, et, ei, hl]; rfl
theorem x_run2 {T tp : Nat → Int32} {n k a : Int32} {κ κ2 : Int32 → Int32 → Int64 → Prop} (hn : IV n 0 900) (ht : TpR tp T) (hk : k = 1 ∨ k = 2) (ha : 0 ≤ a.toInt) : ∀ (f : Nat) (u v : Int32) (l : Int64) (j : Nat), IV u 0 900 → u.toInt = a.toInt + j → v = vlF T a.toNatClampNeg j → l = enF T a.toNatClampNeg j → R_x_nextX_L2 n tp k κ κ2 f u v l → ∃ i : Nat, (rn T n k u).toInt = a.toInt + i ∧ (κ (rn T n k u) (vlF T a.toNatClampNeg i) (enF T a.toNatClampNeg i) ∨ κ2 (rn T n k u) (vlF T a.toNatClampNeg i) (enF T a.toNatClampNeg i)) := by
  have hk0 : k ≠ 0 := by rcases hk with rfl | rfl <;> decide
  intro f
  induction f with
  | zero => intro u v l j _ _ _ _ h; exact h.elim
  | succ f ih =>
    intro u v l j hu hj hv hl h
    simp only [R_x_nextX_L2] at h
    rcases h with ⟨h1, h⟩ | ⟨h1, r, hr, h⟩
    · rw [rn_stop (fun q => by have := (rn_step hn hu.1 hk0 q).1; rw [le_I] at h1; omega)]
      refine ⟨j, hj, Or.inl ?_⟩
      rw [← hv, ← hl]; exact h
    · have e := x_kindAt_spec hr hu hn ht
      rcases h with ⟨h2, h⟩ | ⟨h2, y1, hy1, z1, hz1, z2, hz2, z3, hz3, y2, hy2, y3, hy3, z4, hz4, z5, hz5, z6, hz6, z7, hz7, z8, hz8, h⟩
      · rw [rn_stop (fun q => h2 (e.trans q))]
        refine ⟨j, hj, Or.inr ?_⟩
        rw [← hv, ← hl]; exact h
      · have q := e.symm.trans h2
        obtain ⟨g1, g2⟩ := rn_step hn hu.1 hk0 q
        have et := tp_at ht hn hu hk q
        have eu := inc1 (u := u) (z := u + 1) (a := 0) (b := 900) hu (by omega) (by omega) rfl
        have ei : u.toNatClampNeg = a.toNatClampNeg + j := by have := tn_i hu.1; have := tn_i ha; omega
        rw [g2]
        subst hz8
        refine ih (u + 1) z7 y3 (j + 1) ⟨by omega, by omega⟩ (by omega) ?_ ?_ h
        · rw [hz7, hz4, hz6, hz5, et, ei, hv]; rfl
        · rw [hy3, hy1, hy2, hz3, hz2, hz1, et, ei, hl]; rfl
theorem x_run3 {T tp : Nat → Int32} {n k a : Int32} {κ κ2 : Int32 → Int32 → Int64 → Prop} (hn : IV n 0 900) (ht : TpR tp T) (hk : k = 1 ∨ k = 2) (ha : 0 ≤ a.toInt) : ∀ (f : Nat) (u v : Int32) (l : Int64) (j : Nat), IV u 0 900 → u.toInt = a.toInt + j → v = vlF T a.toNatClampNeg j → l = enF T a.toNatClampNeg j → R_x_nextX_L3 n tp k κ κ2 f u v l → ∃ i : Nat, (rn T n k u).toInt = a.toInt + i ∧ (κ (rn T n k u) (vlF T a.toNatClampNeg i) (enF T a.toNatClampNeg i) ∨ κ2 (rn T n k u) (vlF T a.toNatClampNeg i) (enF T a.toNatClampNeg i)) := by
  have hk0 : k ≠ 0 := by rcases hk with rfl | rfl <;> decide
  intro f
  induction f with
  | zero => intro u v l j _ _ _ _ h; exact h.elim
  | succ f ih =>
    intro u v l j hu hj hv hl h
    simp only [R_x_nextX_L3] at h
    rcases h with ⟨h1, h⟩ | ⟨h1, r, hr, h⟩
    · rw [rn_stop (fun q => by have := (rn_step hn hu.1 hk0 q).1; rw [le_I] at h1; omega)]
      refine ⟨j, hj, Or.inl ?_⟩
      rw [← hv, ← hl]; exact h
    · have e := x_kindAt_spec hr hu hn ht
      rcases h with ⟨h2, h⟩ | ⟨h2, y1, hy1, z1, hz1, z2, hz2, z3, hz3, y2, hy2, y3, hy3, z4, hz4, z5, hz5, z6, hz6, z7, hz7, z8, hz8, h⟩
      · rw [rn_stop (fun q => h2 (e.trans q))]
        refine ⟨j, hj, Or.inr ?_⟩
        rw [← hv, ← hl]; exact h
      · have q := e.symm.trans h2
        obtain ⟨g1, g2⟩ := rn_step hn hu.1 hk0 q
        have et := tp_at ht hn hu hk q
        have eu := inc1 (u := u) (z := u + 1) (a := 0) (b := 900) hu (by omega) (by omega) rfl
        have ei : u.toNatClampNeg = a.toNatClampNeg + j := by have := tn_i hu.1; have := tn_i ha; omega
        rw [g2]
        subst hz8
        refine ih (u + 1) z7 y3 (j + 1) ⟨by omega, by omega⟩ (by omega) ?_ ?_ h
        · rw [hz7, hz4, hz6, hz5, et, ei, hv]; rfl
        · rw [hy3, hy1, hy2, hz3, hz2, hz1, et, ei, hl]; rfl
theorem x_run4 {T tp : Nat → Int32} {n k a : Int32} {κ κ2 : Int32 → Int32 → Int64 → Prop} (hn : IV n 0 900) (ht : TpR tp T) (hk : k = 1 ∨ k = 2) (ha : 0 ≤ a.toInt) : ∀ (f : Nat) (u v : Int32) (l : Int64) (j : Nat), IV u 0 900 → u.toInt = a.toInt + j → v = vlF T a.toNatClampNeg j → l = enF T a.toNatClampNeg j → R_x_nextX_L4 n tp k κ κ2 f u v l → ∃ i : Nat, (rn T n k u).toInt = a.toInt + i ∧ (κ (rn T n k u) (vlF T a.toNatClampNeg i) (enF T a.toNatClampNeg i) ∨ κ2 (rn T n k u) (vlF T a.toNatClampNeg i) (enF T a.toNatClampNeg i)) := by
  have hk0 : k ≠ 0 := by rcases hk with rfl | rfl <;> decide
  intro f
  induction f with
  | zero => intro u v l j _ _ _ _ h; exact h.elim
  | succ f ih =>
    intro u v l j hu hj hv hl h
    simp only [R_x_nextX_L4] at h
    rcases h with ⟨h1, h⟩ | ⟨h1, r, hr, h⟩
    · rw [rn_stop (fun q => by have := (rn_step hn hu.1 hk0 q).1; rw [le_I] at h1; omega)]
      refine ⟨j, hj, Or.inl ?_⟩
      rw [← hv, ← hl]; exact h
    · have e := x_kindAt_spec hr hu hn ht
      rcases h with ⟨h2, h⟩ | ⟨h2, y1, hy1, z1, hz1, z2, hz2, z3, hz3, y2, hy2, y3, hy3, z4, hz4, z5, hz5, z6, hz6, z7, hz7, z8, hz8, h⟩
      · rw [rn_stop (fun q => h2 (e.trans q))]
        refine ⟨j, hj, Or.inr ?_⟩
        rw [← hv, ← hl]; exact h
      · have q := e.symm.trans h2
        obtain ⟨g1, g2⟩ := rn_step hn hu.1 hk0 q
        have et := tp_at ht hn hu hk q
        have eu := inc1 (u := u) (z := u + 1) (a := 0) (b := 900) hu (by omega) (by omega) rfl
        have ei : u.toNatClampNeg = a.toNatClampNeg + j := by have := tn_i hu.1; have := tn_i ha; omega
        rw [g2]
        subst hz8
        refine ih (u + 1) z7 y3 (j + 1) ⟨by omega, by omega⟩ (by omega) ?_ ?_ h
        · rw [hz7, hz4, hz6, hz5, et, ei, hv]; rfl
        · rw [hy3, hy1, hy2, hz3, hz2, hz1, et, ei, hl]; rfl
theorem m_small {c r : Int32} (h : R_m_isSmallX c r) : (r = 0 ∧ kc c ≠ 1) ∨ (r = 1 ∧ kc c = 1) := by
  simp only [R_m_isSmallX] at h
  rcases h with ⟨h1, h⟩ | ⟨h1, ⟨h2, h⟩ | ⟨h2, h⟩⟩
  · exact Or.inl ⟨h, fun q => by have := kc1.mp q; rw [lt_I, n97] at h1; omega⟩
  · exact Or.inl ⟨h, fun q => by have := kc1.mp q; rw [lt_I, n122] at h2; omega⟩
  · exact Or.inr ⟨h, kc1.mpr ⟨by rw [lt_I, n97] at h1; omega, by rw [lt_I, n122] at h2; omega⟩⟩
theorem m_digit {c r : Int32} (h : R_m_isDigitX c r) : (r = 0 ∧ kc c ≠ 2) ∨ (r = 1 ∧ kc c = 2) := by
  simp only [R_m_isDigitX] at h
  rcases h with ⟨h1, h⟩ | ⟨h1, ⟨h2, h⟩ | ⟨h2, h⟩⟩
  · exact Or.inl ⟨h, fun q => by have := kc2.mp q; rw [lt_I, n48] at h1; omega⟩
  · exact Or.inl ⟨h, fun q => by have := kc2.mp q; rw [lt_I, n57] at h2; omega⟩
  · exact Or.inr ⟨h, kc2.mpr ⟨by rw [lt_I, n48] at h1; omega, by rw [lt_I, n57] at h2; omega⟩⟩

def tkF (T : Nat → Int32) (n a : Int32) : Int32 := if kc (lookF T n a) = 1 then (if (rn T n 1 a).toInt - a.toInt ≤ 8 then 1 else 6) else if kc (lookF T n a) = 2 then (if (rn T n 2 a).toInt - a.toInt ≤ 4 then 2 else 6) else kc (lookF T n a)
def edF (T : Nat → Int32) (n a : Int32) : Int32 := if kc (lookF T n a) = 1 then rn T n 1 a else if kc (lookF T n a) = 2 then rn T n 2 a else if kc (lookF T n a) = 0 then a else a + 1
def lnF (T : Nat → Int32) (n a : Int32) : Nat := ((edF T n a).toInt - a.toInt).toNat
def tmF (k : Int32) : Int32 := if k = 0 then 0 else if k = 1 then 2 else if k = 2 then 3 else if k = 3 then 59 else if k = 4 then 44 else 1
def TokX (T : Nat → Int32) (n a kd po va : Int32) (le : Int64) : Prop := kd = tkF T n a ∧ po = edF T n a ∧ (tkF T n a = 1 → le = enF T a.toNatClampNeg (lnF T n a)) ∧ (tkF T n a = 2 → va = vlF T a.toNatClampNeg (lnF T n a))
def TokM (T : Nat → Int32) (n a en tk wh ns : Int32) (L : Nat → Int32) : Prop := en = edF T n a ∧ tk = tmF (tkF T n a) ∧ (tkF T n a = 1 → ns.toInt = lnF T n a ∧ ∀ k : Nat, k < lnF T n a → L k = T (a.toNatClampNeg + k)) ∧ (tkF T n a = 2 → wh = vlF T a.toNatClampNeg (lnF T n a))
theorem k10 {w c : Int32} : (10 : Int32) * w + c - 48 = w * 10 + (c - 48) := by
  rw [Int32.mul_comm, Int32.sub_eq_add_neg, Int32.sub_eq_add_neg, Int32.add_assoc]
theorem m_runD {T : Nat → Int32} {n a : Int32} {κ : Int32 → Int32 → Int32 → Prop} (hn : IV n 0 900) (ha : 0 ≤ a.toInt) : ∀ (f : Nat) (u c w : Int32) (j : Nat), IV u 0 900 → u.toInt = a.toInt + j → c.toInt = j → (j ≤ 4 → w = vlF T a.toNatClampNeg j) → R_m_nextX_L1 n T κ f u c w → ∃ (i : Nat) (c2 w2 : Int32), (rn T n 2 u).toInt = a.toInt + i ∧ c2.toInt = i ∧ (i ≤ 4 → w2 = vlF T a.toNatClampNeg i) ∧ κ c2 (rn T n 2 u) w2 := by
  intro f
  induction f with
  | zero => intro u c w j _ _ _ _ h; exact h.elim
  | succ f ih =>
    intro u c w j hu hj hc hw h
    simp only [R_m_nextX_L1] at h
    obtain ⟨r, hr, r2, hr2, h⟩ := h
    have e := m_look_spec hr
    subst e
    rcases h with ⟨h1, h⟩ | ⟨h1, h⟩
    · have q : kc (lookF T n u) ≠ 2 := by
        rcases m_digit hr2 with ⟨-, q⟩ | ⟨q, -⟩
        · exact q
        · rw [q] at h1; exact absurd h1 (by decide)
      rw [rn_stop q]
      exact ⟨j, c, w, hj, hc, hw, h⟩
    · have q : kc (lookF T n u) = 2 := by
        rcases m_digit hr2 with ⟨q, -⟩ | ⟨-, q⟩
        · exact absurd q h1
        · exact q
      obtain ⟨g1, g2⟩ := rn_step hn hu.1 (by decide) q
      have eu := inc1 (u := u) (z := u + 1) (a := 0) (b := 900) hu (by omega) (by omega) rfl
      have ec := inc1 (u := c) (z := c + 1) (a := 0) (b := 900) ⟨by omega, by omega⟩ (by omega) (by omega) rfl
      have ei : u.toNatClampNeg = a.toNatClampNeg + j := by have := tn_i hu.1; have := tn_i ha; omega
      have n4 : (4 : Int32).toInt = 4 := by decide
      rw [g2]
      rw [ofI1] at h
      rcases h with ⟨h2, z1, hz1, z2, hz2, h⟩ | ⟨h2, z1, hz1, r3, hr3, z2, hz2, z3, hz3, z4, hz4, z5, hz5, h⟩
      · subst hz1 hz2
        rw [le_I, n4] at h2
        exact ih (u + 1) (c + 1) w (j + 1) ⟨by omega, by omega⟩ (by omega) (by omega) (fun q => by omega) h
      · subst hz4 hz5
        rw [le_I, n4] at h2
        refine ih (u + 1) (c + 1) z3 (j + 1) ⟨by omega, by omega⟩ (by omega) (by omega) (fun _ => ?_) h
        rw [hz3, hz2, hz1, m_look_spec hr3, hw (by omega), k10, (look_in (by rw [q]; decide)).2, ei]
        rfl
theorem m_runL {T : Nat → Int32} {n a : Int32} {κ : Int32 → Int32 → (Nat → Int32) → Prop} (hn : IV n 0 900) (ha : 0 ≤ a.toInt) : ∀ (f : Nat) (L : Nat → Int32) (u c : Int32) (j : Nat), IV u 0 900 → u.toInt = a.toInt + j → c.toInt = j → (∀ k : Nat, k < j → k < 8 → L k = T (a.toNatClampNeg + k)) → R_m_nextX_L2 n T κ f L u c → ∃ (i : Nat) (c2 : Int32) (L2 : Nat → Int32), (rn T n 1 u).toInt = a.toInt + i ∧ c2.toInt = i ∧ (∀ k : Nat, k < i → k < 8 → L2 k = T (a.toNatClampNeg + k)) ∧ κ c2 (rn T n 1 u) L2 := by
  intro f
  induction f with
  | zero => intro L u c j _ _ _ _ h; exact h.elim
  | succ f ih =>
    intro L u c j hu hj hc hw h
    simp only [R_m_nextX_L2] at h
    obtain ⟨r, hr, r2, hr2, h⟩ := h
    have e := m_look_spec hr
    subst e
    rcases h with ⟨h1, h⟩ | ⟨h1, h⟩
    · have q : kc (lookF T n u) ≠ 1 := by
        rcases m_small hr2 with ⟨-, q⟩ | ⟨q, -⟩
        · exact q
        · rw [q] at h1; exact absurd h1 (by decide)
      rw [rn_stop q]
      exact ⟨j, c, L, hj, hc, hw, h⟩
    · have q : kc (lookF T n u) = 1 := by
        rcases m_small hr2 with ⟨q, -⟩ | ⟨-, q⟩
        · exact absurd q h1
        · exact q
      obtain ⟨g1, g2⟩ := rn_step hn hu.1 (by decide) q
      have eu := inc1 (u := u) (z := u + 1) (a := 0) (b := 900) hu (by omega) (by omega) rfl
      have ec := inc1 (u := c) (z := c + 1) (a := 0) (b := 900) ⟨by omega, by omega⟩ (by omega) (by omega) rfl
      have ei : u.toNatClampNeg = a.toNatClampNeg + j := by have := tn_i hu.1; have := tn_i ha; omega
      have n8 : (8 : Int32).toInt = 8 := by decide
      rw [g2]
      rw [ofI1] at h
      rcases h with ⟨h2, z1, hz1, z2, hz2, h⟩ | ⟨h2, r3, hr3, z1, hz1, z2, hz2, h⟩
      · subst hz1 hz2
        rw [le_I, n8] at h2
        exact ih L (u + 1) (c + 1) (j + 1) ⟨by omega, by omega⟩ (by omega) (by omega) (fun k k1 k2 => hw k (by omega) k2) h
      · subst hz1 hz2
        rw [le_I, n8] at h2
        refine ih _ (u + 1) (c + 1) (j + 1) ⟨by omega, by omega⟩ (by omega) (by omega) (fun k k1 k2 => ?_) h
        have ej : c.toNatClampNeg = j := by have := tn_i (z := c) (by omega); omega
        unfold upd
        rw [ej]
        by_cases qk : k = j
        · subst qk
          simp only [if_true]
          rw [m_look_spec hr3, (look_in (by rw [q]; decide)).2, ei]
        · rw [if_neg qk]; exact hw k (by omega) k2

theorem ed1 {T : Nat → Int32} {n a : Int32} (h : kc (lookF T n a) = 1) : edF T n a = rn T n 1 a := by unfold edF; rw [if_pos h]
theorem ed2 {T : Nat → Int32} {n a : Int32} (h : kc (lookF T n a) = 2) : edF T n a = rn T n 2 a := by unfold edF; rw [if_neg (by rw [h]; decide), if_pos h]
theorem ed0 {T : Nat → Int32} {n a : Int32} (h : kc (lookF T n a) = 0) : edF T n a = a := by unfold edF; rw [if_neg (by rw [h]; decide), if_neg (by rw [h]; decide), if_pos h]
theorem edo {T : Nat → Int32} {n a : Int32} (h1 : kc (lookF T n a) ≠ 1) (h2 : kc (lookF T n a) ≠ 2) (h0 : kc (lookF T n a) ≠ 0) : edF T n a = a + 1 := by unfold edF; rw [if_neg h1, if_neg h2, if_neg h0]
theorem tko {T : Nat → Int32} {n a : Int32} (h1 : kc (lookF T n a) ≠ 1) (h2 : kc (lookF T n a) ≠ 2) : tkF T n a = kc (lookF T n a) := by unfold tkF; rw [if_neg h1, if_neg h2]
theorem tk1 {T : Nat → Int32} {n a : Int32} {i : Nat} (h : kc (lookF T n a) = 1) (hi : (rn T n 1 a).toInt = a.toInt + i) : tkF T n a = if i ≤ 8 then 1 else 6 := by
  unfold tkF
  rw [if_pos h, hi]
  by_cases q : i ≤ 8
  · rw [if_pos (by omega), if_pos q]
  · rw [if_neg (by omega), if_neg q]
theorem tk2 {T : Nat → Int32} {n a : Int32} {i : Nat} (h : kc (lookF T n a) = 2) (hi : (rn T n 2 a).toInt = a.toInt + i) : tkF T n a = if i ≤ 4 then 2 else 6 := by
  unfold tkF
  rw [if_neg (by rw [h]; decide), if_pos h, hi]
  by_cases q : i ≤ 4
  · rw [if_pos (by omega), if_pos q]
  · rw [if_neg (by omega), if_neg q]
theorem ln1 {T : Nat → Int32} {n a : Int32} {i : Nat} (h : kc (lookF T n a) = 1) (hi : (rn T n 1 a).toInt = a.toInt + i) : lnF T n a = i := by unfold lnF; rw [ed1 h, hi]; omega
theorem ln2 {T : Nat → Int32} {n a : Int32} {i : Nat} (h : kc (lookF T n a) = 2) (hi : (rn T n 2 a).toInt = a.toInt + i) : lnF T n a = i := by unfold lnF; rw [ed2 h, hi]; omega
theorem tx_word {T : Nat → Int32} {n a kd po va : Int32} {le : Int64} {i : Nat} (h : kc (lookF T n a) = 1) (hi : (rn T n 1 a).toInt = a.toInt + i) (hp : po = rn T n 1 a) (hl : le = enF T a.toNatClampNeg i) (hk : kd = if i ≤ 8 then 1 else 6) : TokX T n a kd po va le := by
  refine ⟨by rw [hk, tk1 h hi], by rw [hp, ed1 h], fun _ => by rw [hl, ln1 h hi], fun q => ?_⟩
  rw [tk1 h hi] at q
  split at q <;> exact absurd q (by decide)
theorem tx_dig {T : Nat → Int32} {n a kd po va : Int32} {le : Int64} {i : Nat} (h : kc (lookF T n a) = 2) (hi : (rn T n 2 a).toInt = a.toInt + i) (hp : po = rn T n 2 a) (hv : va = vlF T a.toNatClampNeg i) (hk : kd = if i ≤ 4 then 2 else 6) : TokX T n a kd po va le := by
  refine ⟨by rw [hk, tk2 h hi], by rw [hp, ed2 h], fun q => ?_, fun _ => by rw [hv, ln2 h hi]⟩
  rw [tk2 h hi] at q
  split at q <;> exact absurd q (by decide)
theorem tx_one {T : Nat → Int32} {n a po va : Int32} {le : Int64} (h1 : kc (lookF T n a) ≠ 1) (h2 : kc (lookF T n a) ≠ 2) (hp : po = edF T n a) : TokX T n a (kc (lookF T n a)) po va le :=
  ⟨(tko h1 h2).symm, hp, fun q => absurd ((tko h1 h2).symm.trans q) h1, fun q => absurd ((tko h1 h2).symm.trans q) h2⟩
theorem sub_le {e a z : Int32} {i : Nat} {m : Int32} {M : Nat} (hm : m.toInt = M) (ha : IV a 0 900) (he : IV e 0 900) (hi : e.toInt = a.toInt + i) (hz : z = e - a) : z ≤ m ↔ i ≤ M := by
  have := in_sub hz he ha (by decide) (by decide)
  rw [le_I, this, hm]
  omega
theorem n8 : (8 : Int32).toInt = (8 : Nat) := by decide
theorem n4 : (4 : Int32).toInt = (4 : Nat) := by decide
theorem rn_endF {T : Nat → Int32} {n k : Int32} (hn : IV n 0 900) (hk : k ≠ 0) : ∀ (f : Nat) (u : Int32), (900 - u.toInt).toNat = f → IV u 0 900 → kc (lookF T n (rn T n k u)) ≠ k := by
  intro f
  induction f with
  | zero =>
    intro u hf hu
    have q : kc (lookF T n u) ≠ k := fun q => by have := (rn_step hn hu.1 hk q).1; omega
    rw [rn_stop q]; exact q
  | succ f ih =>
    intro u hf hu
    by_cases q : kc (lookF T n u) = k
    · obtain ⟨h1, h2⟩ := rn_step hn hu.1 hk q
      have e := inc1 (u := u) (z := u + 1) (a := 0) (b := 900) hu (by omega) (by omega) rfl
      rw [h2]
      exact ih (u + 1) (by omega) ⟨by omega, by omega⟩
    · rw [rn_stop q]; exact q
theorem rn_end {T : Nat → Int32} {n u : Int32} (hn : IV n 0 900) (hu : IV u 0 900) : kc (lookF T n (rn T n 5 u)) ≠ 5 := rn_endF hn (by decide) _ u rfl hu
theorem x_next_spec {T tp : Nat → Int32} {n po kd sta po2 va : Int32} {le : Int64} (hn : IV n 0 900) (ht : TpR tp T) (hp : IV po 0 900) (h : R_x_nextX n po tp kd sta po2 va le) : sta = rn T n 5 po ∧ TokX T n (rn T n 5 po) kd po2 va le := by
  simp only [R_x_nextX] at h
  obtain ⟨f, h⟩ := h
  have hb := rn_ge (T := T) (k := 5) hn (by decide) hp
  have ha : IV (rn T n 5 po) 0 900 := ⟨by omega, hb.2⟩
  have hz := x_skip hn ht f po hp h
  clear h
  revert hz ha
  generalize rn T n 5 po = a
  intro ha hz
  rcases hz with hz | hz
  · obtain ⟨r, hr, h⟩ := hz
    have e := x_kindAt_spec hr ha hn ht
    have b1 := rn_ge (T := T) (k := 1) hn (by decide) ha
    have b2 := rn_ge (T := T) (k := 2) hn (by decide) ha
    rcases h with ⟨h1, m, h⟩ | ⟨h1, ⟨h2, h⟩ | ⟨h2, m, h⟩⟩
    · have q := e.symm.trans h1
      rw [h1] at h
      obtain ⟨i, hi, h⟩ := x_run1 hn ht (Or.inl rfl) ha.1 m a 0 0 0 ha (by omega) rfl rfl h
      have fin : ∀ z : Int32, z = rn T n 1 a - a → ((z ≤ 8 ∧ kd = 1 ∧ sta = a ∧ po2 = rn T n 1 a ∧ va = vlF T a.toNatClampNeg i ∧ le = enF T a.toNatClampNeg i) ∨ (¬ z ≤ 8 ∧ kd = 6 ∧ sta = a ∧ po2 = rn T n 1 a ∧ va = vlF T a.toNatClampNeg i ∧ le = enF T a.toNatClampNeg i)) → sta = a ∧ TokX T n a kd po2 va le := by
        intro z hz h
        have s := sub_le n8 ha (e := rn T n 1 a) ⟨by omega, b1.2⟩ hi hz
        rcases h with ⟨h3, k1, k2, k3, k4, k5⟩ | ⟨h3, k1, k2, k3, k4, k5⟩
        · exact ⟨k2, tx_word q hi k3 k5 (by rw [k1, if_pos (s.mp h3)])⟩
        · exact ⟨k2, tx_word q hi k3 k5 (by rw [k1, if_neg (fun w => h3 (s.mpr w))])⟩
      rcases h with ⟨z, hz, h⟩ | ⟨z, hz, h⟩ <;> exact fin z hz h
    · have q1 : kc (lookF T n a) ≠ 1 := fun w => h1 (e.trans w)
      have q2 : kc (lookF T n a) ≠ 2 := fun w => h2 (e.trans w)
      rcases h with ⟨h3, z, hz, h⟩ | ⟨h3, z, hz, z2, hz2, h⟩
      · have s : z ≤ 4 := by rw [hz, Int32.sub_self]; decide
        rcases h with ⟨h4, k1, k2, k3, k4, k5⟩ | ⟨h4, -⟩
        · refine ⟨k2, ?_⟩
          rw [k1, e]
          exact tx_one q1 q2 (by rw [k3, ed0 (e.symm.trans h3)])
        · exact absurd s h4
      · have q0 : kc (lookF T n a) ≠ 0 := fun w => h3 (e.trans w)
        have g1 := (look_in q0).1
        have eu := inc1 (u := a) (z := z) (a := 0) (b := 900) ha (by omega) (by omega) hz
        have s : z2 ≤ 4 := by
          rw [sub_le (i := 1) n4 ha (e := z) ⟨by omega, by omega⟩ (by omega) hz2]; decide
        rcases h with ⟨h4, h⟩ | ⟨h4, -⟩
        · rcases h with ⟨h5, k1, k2, k3, k4, k5⟩ | ⟨h5, -⟩
          · refine ⟨k2, ?_⟩
            rw [k1, e]
            exact tx_one q1 q2 (by rw [k3, hz, edo q1 q2 q0])
          · exact absurd s h5
        · exact absurd h4 h1
    · have q := e.symm.trans h2
      rw [h2] at h
      obtain ⟨i, hi, h⟩ := x_run2 hn ht (Or.inr rfl) ha.1 m a 0 0 0 ha (by omega) rfl rfl h
      have fin : ∀ z : Int32, z = rn T n 2 a - a → ((z ≤ 4 ∧ kd = 2 ∧ sta = a ∧ po2 = rn T n 2 a ∧ va = vlF T a.toNatClampNeg i ∧ le = enF T a.toNatClampNeg i) ∨ (¬ z ≤ 4 ∧ kd = 6 ∧ sta = a ∧ po2 = rn T n 2 a ∧ va = vlF T a.toNatClampNeg i ∧ le = enF T a.toNatClampNeg i)) → sta = a ∧ TokX T n a kd po2 va le := by
        intro z hz h
        have s := sub_le n4 ha (e := rn T n 2 a) ⟨by omega, b2.2⟩ hi hz
        rcases h with ⟨h3, k1, k2, k3, k4, k5⟩ | ⟨h3, k1, k2, k3, k4, k5⟩
        · exact ⟨k2, tx_dig q hi k3 k4 (by rw [k1, if_pos (s.mp h3)])⟩
        · exact ⟨k2, tx_dig q hi k3 k4 (by rw [k1, if_neg (fun w => h3 (s.mpr w))])⟩
      rcases h with ⟨z, hz, h⟩ | ⟨z, hz, h⟩ <;> exact fin z hz h
  · obtain ⟨r, hr, h⟩ := hz
    have e := x_kindAt_spec hr ha hn ht
    have b1 := rn_ge (T := T) (k := 1) hn (by decide) ha
    have b2 := rn_ge (T := T) (k := 2) hn (by decide) ha
    rcases h with ⟨h1, m, h⟩ | ⟨h1, ⟨h2, h⟩ | ⟨h2, m, h⟩⟩
    · have q := e.symm.trans h1
      rw [h1] at h
      obtain ⟨i, hi, h⟩ := x_run3 hn ht (Or.inl rfl) ha.1 m a 0 0 0 ha (by omega) rfl rfl h
      have fin : ∀ z : Int32, z = rn T n 1 a - a → ((z ≤ 8 ∧ kd = 1 ∧ sta = a ∧ po2 = rn T n 1 a ∧ va = vlF T a.toNatClampNeg i ∧ le = enF T a.toNatClampNeg i) ∨ (¬ z ≤ 8 ∧ kd = 6 ∧ sta = a ∧ po2 = rn T n 1 a ∧ va = vlF T a.toNatClampNeg i ∧ le = enF T a.toNatClampNeg i)) → sta = a ∧ TokX T n a kd po2 va le := by
        intro z hz h
        have s := sub_le n8 ha (e := rn T n 1 a) ⟨by omega, b1.2⟩ hi hz
        rcases h with ⟨h3, k1, k2, k3, k4, k5⟩ | ⟨h3, k1, k2, k3, k4, k5⟩
        · exact ⟨k2, tx_word q hi k3 k5 (by rw [k1, if_pos (s.mp h3)])⟩
        · exact ⟨k2, tx_word q hi k3 k5 (by rw [k1, if_neg (fun w => h3 (s.mpr w))])⟩
      rcases h with ⟨z, hz, h⟩ | ⟨z, hz, h⟩ <;> exact fin z hz h
    · have q1 : kc (lookF T n a) ≠ 1 := fun w => h1 (e.trans w)
      have q2 : kc (lookF T n a) ≠ 2 := fun w => h2 (e.trans w)
      rcases h with ⟨h3, z, hz, h⟩ | ⟨h3, z, hz, z2, hz2, h⟩
      · have s : z ≤ 4 := by rw [hz, Int32.sub_self]; decide
        rcases h with ⟨h4, k1, k2, k3, k4, k5⟩ | ⟨h4, -⟩
        · refine ⟨k2, ?_⟩
          rw [k1, e]
          exact tx_one q1 q2 (by rw [k3, ed0 (e.symm.trans h3)])
        · exact absurd s h4
      · have q0 : kc (lookF T n a) ≠ 0 := fun w => h3 (e.trans w)
        have g1 := (look_in q0).1
        have eu := inc1 (u := a) (z := z) (a := 0) (b := 900) ha (by omega) (by omega) hz
        have s : z2 ≤ 4 := by
          rw [sub_le (i := 1) n4 ha (e := z) ⟨by omega, by omega⟩ (by omega) hz2]; decide
        rcases h with ⟨h4, h⟩ | ⟨h4, -⟩
        · rcases h with ⟨h5, k1, k2, k3, k4, k5⟩ | ⟨h5, -⟩
          · refine ⟨k2, ?_⟩
            rw [k1, e]
            exact tx_one q1 q2 (by rw [k3, hz, edo q1 q2 q0])
          · exact absurd s h5
        · exact absurd h4 h1
    · have q := e.symm.trans h2
      rw [h2] at h
      obtain ⟨i, hi, h⟩ := x_run4 hn ht (Or.inr rfl) ha.1 m a 0 0 0 ha (by omega) rfl rfl h
      have fin : ∀ z : Int32, z = rn T n 2 a - a → ((z ≤ 4 ∧ kd = 2 ∧ sta = a ∧ po2 = rn T n 2 a ∧ va = vlF T a.toNatClampNeg i ∧ le = enF T a.toNatClampNeg i) ∨ (¬ z ≤ 4 ∧ kd = 6 ∧ sta = a ∧ po2 = rn T n 2 a ∧ va = vlF T a.toNatClampNeg i ∧ le = enF T a.toNatClampNeg i)) → sta = a ∧ TokX T n a kd po2 va le := by
        intro z hz h
        have s := sub_le n4 ha (e := rn T n 2 a) ⟨by omega, b2.2⟩ hi hz
        rcases h with ⟨h3, k1, k2, k3, k4, k5⟩ | ⟨h3, k1, k2, k3, k4, k5⟩
        · exact ⟨k2, tx_dig q hi k3 k4 (by rw [k1, if_pos (s.mp h3)])⟩
        · exact ⟨k2, tx_dig q hi k3 k4 (by rw [k1, if_neg (fun w => h3 (s.mpr w))])⟩
      rcases h with ⟨z, hz, h⟩ | ⟨z, hz, h⟩ <;> exact fin z hz h
theorem tm_of {k : Int32} : tmF k = if k = 0 then 0 else if k = 1 then 2 else if k = 2 then 3 else if k = 3 then 59 else if k = 4 then 44 else 1 := rfl
theorem m_next_spec {T L L2 : Nat → Int32} {n e at2 en2 ns tk wh : Int32} (hn : IV n 0 900) (hp : IV e 0 900) (h : R_m_nextX n e T L at2 en2 L2 ns tk wh) : at2 = rn T n 5 e ∧ TokM T n (rn T n 5 e) en2 tk wh ns L2 := by
  simp only [R_m_nextX] at h
  obtain ⟨f, h⟩ := h
  have hb := rn_ge (T := T) (k := 5) hn (by decide) hp
  have ha : IV (rn T n 5 e) 0 900 := ⟨by omega, hb.2⟩
  have hz := m_skip hn f e hp h
  have hns : kc (lookF T n (rn T n 5 e)) ≠ 5 := rn_end hn hp
  clear h
  revert hz ha hns
  generalize rn T n 5 e = a
  intro ha hz hns
  obtain ⟨r, hr, h⟩ := hz
  have e1 := m_look_spec hr
  have b1 := rn_ge (T := T) (k := 1) hn (by decide) ha
  have b2 := rn_ge (T := T) (k := 2) hn (by decide) ha
  rcases h with ⟨h1, r2, hr2, h⟩ | ⟨h1, k1, k2, k3, k4, k5, k6⟩
  · have q0 : kc (lookF T n a) ≠ 0 := fun w => h1 (e1.trans (kc0.mp w))
    rcases h with ⟨h2, r3, hr3, h⟩ | ⟨h2, m, h⟩
    · have q1 : kc (lookF T n a) ≠ 1 := by
        rcases m_small hr2 with ⟨-, w⟩ | ⟨w, -⟩
        · rw [← e1]; exact w
        · rw [w] at h2; exact absurd h2 (by decide)
      rcases h with ⟨h3, z, hz, h⟩ | ⟨h3, m, h⟩
      · have q2 : kc (lookF T n a) ≠ 2 := by
          rcases m_digit hr3 with ⟨-, w⟩ | ⟨w, -⟩
          · rw [← e1]; exact w
          · rw [w] at h3; exact absurd h3 (by decide)
        have fin : at2 = a → en2 = z → tk = tmF (kc (lookF T n a)) → at2 = a ∧ TokM T n a en2 tk wh ns L2 := fun g1 g2 g3 =>
          ⟨g1, by rw [g2, hz, edo q1 q2 q0], by rw [g3, tko q1 q2], fun w => absurd ((tko q1 q2).symm.trans w) q1, fun w => absurd ((tko q1 q2).symm.trans w) q2⟩
        rcases h with ⟨h4, k1, k2, k3, k4, k5, k6⟩ | ⟨h4, ⟨h5, k1, k2, k3, k4, k5, k6⟩ | ⟨h5, k1, k2, k3, k4, k5, k6⟩⟩
        · exact fin k1 k2 (by rw [k5, h4, kc3.mpr (e1.symm.trans h4)]; decide)
        · refine fin k1 k2 ?_
          rw [k5, tm_of, if_neg q0, if_neg q1, if_neg q2, if_neg (fun w => h4 (e1.trans (kc3.mp w))), if_neg (fun w => h5 (e1.trans (kc4.mp w)))]
        · exact fin k1 k2 (by rw [k5, h5, kc4.mpr (e1.symm.trans h5)]; decide)
      · have q : kc (lookF T n a) = 2 := by
          rcases m_digit hr3 with ⟨w, -⟩ | ⟨-, w⟩
          · exact absurd w h3
          · rw [← e1]; exact w
        obtain ⟨i, c2, w2, hi, hc, hw, h⟩ := m_runD hn ha.1 m a 0 0 0 ha (by omega) (by decide) (fun _ => rfl) h
        have s : c2 ≤ 4 ↔ i ≤ 4 := by rw [le_I, n4, hc]; omega
        rcases h with ⟨h4, k1, k2, k3, k4, k5, k6⟩ | ⟨h4, k1, k2, k3, k4, k5, k6⟩
        · have s4 := s.mp h4
          have t2 : tkF T n a = 2 := by rw [tk2 q hi, if_pos s4]
          exact ⟨k1, by rw [k2, ed2 q], by rw [k5, t2]; decide, fun w => absurd (t2.symm.trans w) (by decide), fun _ => by rw [k6, hw s4, ln2 q hi]⟩
        · have s4 : ¬ i ≤ 4 := fun w => h4 (s.mpr w)
          have t2 : tkF T n a = 6 := by rw [tk2 q hi, if_neg s4]
          exact ⟨k1, by rw [k2, ed2 q], by rw [k5, t2]; decide, fun w => absurd (t2.symm.trans w) (by decide), fun w => absurd (t2.symm.trans w) (by decide)⟩
    · have q : kc (lookF T n a) = 1 := by
        rcases m_small hr2 with ⟨w, -⟩ | ⟨-, w⟩
        · exact absurd w h2
        · rw [← e1]; exact w
      obtain ⟨i, c2, M2, hi, hc, hw, h⟩ := m_runL hn ha.1 m L a 0 0 ha (by omega) (by decide) (fun k w _ => by omega) h
      have s : c2 ≤ 8 ↔ i ≤ 8 := by rw [le_I, n8, hc]; omega
      rcases h with ⟨h4, k1, k2, k3, k4, k5, k6⟩ | ⟨h4, k1, k2, k3, k4, k5, k6⟩
      · have s8 := s.mp h4
        have t1 : tkF T n a = 1 := by rw [tk1 q hi, if_pos s8]
        exact ⟨k1, by rw [k2, ed1 q], by rw [k5, t1]; decide, fun _ => ⟨by rw [k4, hc, ln1 q hi], fun k w => by rw [k3]; rw [ln1 q hi] at w; exact hw k w (by omega)⟩, fun w => absurd (t1.symm.trans w) (by decide)⟩
      · have s8 : ¬ i ≤ 8 := fun w => h4 (s.mpr w)
        have t1 : tkF T n a = 6 := by rw [tk1 q hi, if_neg s8]
        exact ⟨k1, by rw [k2, ed1 q], by rw [k5, t1]; decide, fun w => absurd (t1.symm.trans w) (by decide), fun w => absurd (t1.symm.trans w) (by decide)⟩
  · have q : kc (lookF T n a) = 0 := kc0.mpr (e1.symm.trans h1)
    have q1 : kc (lookF T n a) ≠ 1 := by rw [q]; decide
    have q2 : kc (lookF T n a) ≠ 2 := by rw [q]; decide
    exact ⟨k1, by rw [k2, ed0 q], by rw [k5, tko q1 q2, q]; decide, fun w => absurd ((tko q1 q2).symm.trans w) q1, fun w => absurd ((tko q1 q2).symm.trans w) q2⟩

def WOk (w : String) : Prop := (sBy w).length ≤ 8 ∧ ∀ k : Nat, k < (sBy w).length → ((((sBy w).getD k 0) &&& 255).toUInt32 % 65536).toInt32 = (sBy w).getD k 0
def IsW (T : Nat → Int32) (n a : Int32) (w : String) : Prop := tkF T n a = 1 ∧ lnF T n a = (sBy w).length ∧ ∀ k : Nat, k < (sBy w).length → T (a.toNatClampNeg + k) = (sBy w).getD k 0
theorem tm2 {k : Int32} : tmF k = 2 ↔ k = 1 := by
  unfold tmF
  constructor
  · intro h
    repeat' split at h
    all_goals first | assumption | (exact absurd h (by decide))
  · rintro rfl; decide
theorem rn_chF {T : Nat → Int32} {n k : Int32} (hn : IV n 0 900) (hk : k ≠ 0) : ∀ (f : Nat) (u : Int32) (i : Nat), (900 - u.toInt).toNat = f → IV u 0 900 → (rn T n k u).toInt = u.toInt + i → ∀ j : Nat, j < i → u.toNatClampNeg + j < 900 ∧ kc (T (u.toNatClampNeg + j)) = k := by
  intro f
  induction f with
  | zero =>
    intro u i hf hu hi j hj
    rw [rn_stop (fun q => by have := (rn_step hn hu.1 hk q).1; omega)] at hi
    omega
  | succ f ih =>
    intro u i hf hu hi j hj
    by_cases q : kc (lookF T n u) = k
    · obtain ⟨h1, h2⟩ := rn_step hn hu.1 hk q
      have e := inc1 (u := u) (z := u + 1) (a := 0) (b := 900) hu (by omega) (by omega) rfl
      have t1 := tn_i hu.1
      have t2 := tn_i (z := u + 1) (by omega)
      rw [h2] at hi
      cases j with
      | zero => exact ⟨by omega, by rw [← q, (look_in (by rw [q]; exact hk)).2]; rfl⟩
      | succ j =>
        have := ih (u + 1) (i - 1) (by omega) ⟨by omega, by omega⟩ (by omega) j (by omega)
        rw [show u.toNatClampNeg + (j + 1) = (u + 1).toNatClampNeg + j by omega]
        exact this
    · rw [rn_stop q] at hi; omega
theorem tk1_inv {T : Nat → Int32} {n a : Int32} (hn : IV n 0 900) (ha : IV a 0 900) (h : tkF T n a = 1) : kc (lookF T n a) = 1 ∧ ∃ i : Nat, (rn T n 1 a).toInt = a.toInt + i ∧ i ≤ 8 ∧ 1 ≤ i ∧ lnF T n a = i ∧ edF T n a = rn T n 1 a := by
  have q : kc (lookF T n a) = 1 := by
    unfold tkF at h
    split at h
    · assumption
    · split at h
      · split at h <;> exact absurd h (by decide)
      · exact h
  obtain ⟨b1, b2⟩ := rn_ge (T := T) (k := 1) hn (by decide) ha
  have hi : (rn T n 1 a).toInt = a.toInt + (((rn T n 1 a).toInt - a.toInt).toNat : Nat) := by omega
  refine ⟨q, _, hi, ?_, ?_, ln1 q hi, ed1 q⟩
  · have := tk1 q hi
    rw [h] at this
    split at this
    · assumption
    · exact absurd this (by decide)
  · obtain ⟨g1, g2⟩ := rn_step hn ha.1 (by decide) q
    have e := inc1 (u := a) (z := a + 1) (a := 0) (b := 900) ha (by omega) (by omega) rfl
    have := rn_ge (T := T) (k := 1) (u := a + 1) hn (by decide) ⟨by omega, by omega⟩
    rw [g2] at hi ⊢
    omega
theorem word_ch {T : Nat → Int32} {n a : Int32} (hn : IV n 0 900) (ha : IV a 0 900) (h : tkF T n a = 1) {k : Nat} (hk : k < lnF T n a) : a.toNatClampNeg + k < 900 ∧ IV (T (a.toNatClampNeg + k)) 97 122 := by
  obtain ⟨q, i, hi, h8, h1, hl, he⟩ := tk1_inv hn ha h
  have := rn_chF hn (by decide) _ a i rfl ha hi k (by omega)
  exact ⟨this.1, kc1.mp this.2⟩
theorem nIt {k : Nat} (h : k ≤ 900) : (nI k).toInt = k := nI_toInt (by omega)
theorem x_is_loop {T tp : Nat → Int32} {n a r : Int32} {w : String} (hn : IV n 0 900) (ha : IV a 0 900) (ht : TpR tp T) (hw : WOk w) (h1 : tkF T n a = 1) (hl : lnF T n a = (sBy w).length) : ∀ (f : Nat) (u : Int32) (j : Nat), u.toInt = j → j ≤ (sBy w).length → (∀ k : Nat, k < j → T (a.toNatClampNeg + k) = (sBy w).getD k 0) → R_x_isX_L0 a tp w r (r = 1) (r = 1) f u → (r = 1 ∧ ∀ k : Nat, k < (sBy w).length → T (a.toNatClampNeg + k) = (sBy w).getD k 0) ∨ (r = 0 ∧ ¬ ∀ k : Nat, k < (sBy w).length → T (a.toNatClampNeg + k) = (sBy w).getD k 0) := by
  intro f
  induction f with
  | zero => intro u j _ _ _ h; exact h.elim
  | succ f ih =>
    intro u j hj hj2 hall h
    have hw8 := hw.1
    simp only [R_x_isX_L0] at h
    obtain ⟨r1, hr1, h⟩ := h
    have e1 : r1.toInt = ((sBy w).length : Nat) := by rw [hr1, nIt (by omega)]
    rcases h with ⟨h2, h⟩ | ⟨h2, z, hz, h⟩
    · rw [le_I] at h2
      exact Or.inl ⟨h, fun k hk => hall k (by omega)⟩
    · rw [le_I] at h2
      have hc := word_ch hn ha h1 (k := j) (by omega)
      have tn := tn_i ha.1
      have ez := in_add hz ha (show IV u 0 8 from ⟨by omega, by omega⟩) (by decide) (by decide)
      have n900 : (900 : Int32).toInt = 900 := by decide
      have ezn : z.toNatClampNeg = a.toNatClampNeg + j := by have := tn_i (z := z) (by omega); omega
      rcases h with ⟨h3, -⟩ | ⟨h3, z2, hz2, r2, hr2, h⟩
      · rw [le_I, n900] at h3; omega
      · have ejn : u.toNatClampNeg = j := by have := tn_i (z := u) (by omega); omega
        have et : z2 = T (a.toNatClampNeg + j) := by
          rw [hz2, ezn, (ht _ hc.1).2]
          exact sx_id ⟨by omega, by omega⟩
        have er : r2 = (sBy w).getD j 0 := by rw [hr2, ejn]; exact hw.2 j (by omega)
        rcases h with ⟨h4, z3, hz3, h⟩ | ⟨h4, h⟩
        · rw [ofI1] at hz3
          have e3 := inc1 (u := u) (z := z3) (a := 0) (b := 900) ⟨by omega, by omega⟩ (by omega) (by omega) hz3.symm
          refine ih z3 (j + 1) (by omega) (by omega) (fun k hk => ?_) h
          by_cases q : k = j
          · subst q; rw [← et, h4, er]
          · exact hall k (by omega)
        · exact Or.inr ⟨h, fun q => h4 (by rw [et, er]; exact q j (by omega))⟩
theorem x_is_spec {T tp : Nat → Int32} {n a kd po va r : Int32} {le : Int64} {w : String} (hn : IV n 0 900) (ha : IV a 0 900) (ht : TpR tp T) (hw : WOk w) (hk : TokX T n a kd po va le) (h : R_x_isX kd a po tp w r) : (r = 1 ∧ IsW T n a w) ∨ (r = 0 ∧ ¬ IsW T n a w) := by
  obtain ⟨k1, k2, -, -⟩ := hk
  simp only [R_x_isX] at h
  rcases h with ⟨h1, h⟩ | ⟨h1, r1, hr1, z, hz, h⟩
  · exact Or.inr ⟨h, fun q => h1 (k1.trans q.1)⟩
  · have t1 := k1.symm.trans h1
    obtain ⟨q, i, hi, h8, hi1, hl, he⟩ := tk1_inv hn ha t1
    have b1 := rn_ge (T := T) (k := 1) hn (by decide) ha
    have hw8 := hw.1
    have ez := in_sub (x := po) (y := a) hz (show IV po 0 900 by rw [k2, he]; exact ⟨by omega, b1.2⟩) ha (by decide) (by decide)
    rw [k2, he, hi] at ez
    have e1 : r1.toInt = ((sBy w).length : Nat) := by rw [hr1, nIt (by omega)]
    rcases h with ⟨h2, f, h⟩ | ⟨h2, h⟩
    · have e2 : r1.toInt = z.toInt := by rw [h2]
      rcases x_is_loop hn ha ht hw t1 (by omega) f 0 0 (by decide) (by omega) (fun k hk => by omega) h with ⟨g1, g2⟩ | ⟨g1, g2⟩
      · exact Or.inl ⟨g1, t1, by omega, g2⟩
      · exact Or.inr ⟨g1, fun q => g2 q.2.2⟩
    · exact Or.inr ⟨h, fun q => h2 (Int32.toInt_inj.mp (by have := q.2.1; omega))⟩
theorem m_is_loop {T L : Nat → Int32} {n a ns : Int32} {w : String} {κ : Int32 → Prop} (hw : WOk w) (hl : lnF T n a = (sBy w).length) (hns : ns.toInt = ((sBy w).length : Nat)) (hL : ∀ k : Nat, k < lnF T n a → L k = T (a.toNatClampNeg + k)) : ∀ (f : Nat) (s u : Int32) (j : Nat), u.toInt = j → j ≤ (sBy w).length → ((s = 1 ∧ ∀ k : Nat, k < j → T (a.toNatClampNeg + k) = (sBy w).getD k 0) ∨ (s = 0 ∧ ¬ ∀ k : Nat, k < (sBy w).length → T (a.toNatClampNeg + k) = (sBy w).getD k 0)) → R_m_isWordX_L0 ns L w κ f s u → (κ 1 ∧ ∀ k : Nat, k < (sBy w).length → T (a.toNatClampNeg + k) = (sBy w).getD k 0) ∨ (κ 0 ∧ ¬ ∀ k : Nat, k < (sBy w).length → T (a.toNatClampNeg + k) = (sBy w).getD k 0) := by
  intro f
  induction f with
  | zero => intro s u j _ _ _ h; exact h.elim
  | succ f ih =>
    intro s u j hj hj2 hs h
    have hw8 := hw.1
    simp only [R_m_isWordX_L0] at h
    rcases h with ⟨h2, h⟩ | ⟨h2, h⟩
    · rw [le_I] at h2
      rcases hs with ⟨rfl, hs⟩ | ⟨rfl, hs⟩
      · exact Or.inl ⟨h, fun k hk => hs k (by omega)⟩
      · exact Or.inr ⟨h, hs⟩
    · rw [le_I] at h2
      rw [ofI1] at h
      have e3 := inc1 (u := u) (z := u + 1) (a := 0) (b := 900) ⟨by omega, by omega⟩ (by omega) (by omega) rfl
      have ejn : u.toNatClampNeg = j := by have := tn_i (z := u) (by omega); omega
      rcases h with ⟨h3, z, hz, h⟩ | ⟨h3, z, hz, r, hr, h⟩
      · subst hz
        refine ih 0 (u + 1) (j + 1) (by omega) (by omega) (Or.inr ⟨rfl, ?_⟩) h
        rcases hs with ⟨q, -⟩ | ⟨-, hs⟩
        · rw [h3] at q; exact absurd q (by decide)
        · exact hs
      · have hs' : ∀ k : Nat, k < j → T (a.toNatClampNeg + k) = (sBy w).getD k 0 := by
          rcases hs with ⟨-, hs⟩ | ⟨q, -⟩
          · exact hs
          · exact absurd q h3
        have ez : z = T (a.toNatClampNeg + j) := by rw [hz, ejn]; exact hL j (by omega)
        have er : r = (sBy w).getD j 0 := by rw [hr, ejn]; exact hw.2 j (by omega)
        rcases h with ⟨h4, z2, hz2, h⟩ | ⟨h4, z2, hz2, h⟩
        · subst hz2
          exact ih 0 (u + 1) (j + 1) (by omega) (by omega) (Or.inr ⟨rfl, fun q => h4 (by rw [ez, er]; exact q j (by omega))⟩) h
        · subst hz2
          refine ih 1 (u + 1) (j + 1) (by omega) (by omega) (Or.inl ⟨rfl, fun k hk => ?_⟩) h
          by_cases q : k = j
          · subst q; rw [← ez, h4, er]
          · exact hs' k (by omega)
theorem m_is_spec {T L : Nat → Int32} {n a en tk wh ns r : Int32} {w : String} (hw : WOk w) (hk : TokM T n a en tk wh ns L) (h : R_m_isWordX tk ns 0 L w r) : (r = 1 ∧ IsW T n a w) ∨ (r = 0 ∧ ¬ IsW T n a w) := by
  obtain ⟨k1, k2, k3, -⟩ := hk
  simp only [R_m_isWordX] at h
  rcases h with ⟨h1, -⟩ | ⟨-, h⟩
  · exact absurd rfl h1
  · rcases h with ⟨h1, h⟩ | ⟨h1, r1, hr1, h⟩
    · exact Or.inr ⟨h, fun q => h1 (k2.trans (tm2.mpr q.1))⟩
    · have t1 := tm2.mp (k2.symm.trans h1)
      obtain ⟨g1, g2⟩ := k3 t1
      have hw8 := hw.1
      have e1 : r1.toInt = ((sBy w).length : Nat) := by rw [hr1, nIt (by omega)]
      rcases h with ⟨h2, f, h⟩ | ⟨h2, h⟩
      · have hl : lnF T n a = (sBy w).length := by rw [h2, e1] at g1; omega
        rcases m_is_loop (κ := fun u => r = u) hw hl (by rw [h2, e1]) g2 f 1 0 0 (by decide) (by omega) (Or.inl ⟨rfl, fun k hk => by omega⟩) h with ⟨q1, q2⟩ | ⟨q1, q2⟩
        · exact Or.inl ⟨q1, t1, hl, q2⟩
        · exact Or.inr ⟨q1, fun q => q2 q.2.2⟩
      · exact Or.inr ⟨h, fun q => h2 (Int32.toInt_inj.mp (by have := q.2.1; omega))⟩
