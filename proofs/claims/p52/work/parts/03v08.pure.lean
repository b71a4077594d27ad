set_option maxRecDepth 100000
set_option maxHeartbeats 4000000
/-- the class at the token that begins at a -/
def XS (T : Nat → Int32) (n a kd sta po va : Int32) (le : Int64) : Prop := sta = a ∧ IV a 0 900 ∧ TokX T n a kd po va le
def XL (T : Nat → Int32) (n : Int32) (ρ : Rs Int32) (fn fp r fn2 fp2 kd2 sta2 po2 va2 : Int32) (le2 : Int64) : Prop := match ρ with
  | .inl e => r = 0 ∧ fn2 = e.1 ∧ fp2 = e.2
  | .inr b => r = 1 ∧ fn2 = fn ∧ fp2 = fp ∧ XS T n b kd2 sta2 po2 va2 le2
def XV (T : Nat → Int32) (n a : Int32) (σ : Rs (Int32 × Int32)) (fn fp r fn2 fp2 kd2 sta2 po2 va2 : Int32) (le2 : Int64) (tk2 ta2 : Int32) : Prop := match σ with
  | .inl e => r = 0 ∧ fn2 = e.1 ∧ fp2 = e.2
  | .inr v => r = 1 ∧ fn2 = fn ∧ fp2 = fp ∧ tk2 = v.1 ∧ ta2 = a ∧ XS T n v.2 kd2 sta2 po2 va2 le2
theorem x_next_at {T tp : Nat → Int32} {n a kd sta po va kd2 sta2 po2 va2 : Int32} {le le2 : Int64} (hn : IV n 0 900) (ht : TpR tp T) (hs : XS T n a kd sta po va le) (h : R_x_nextX n po tp kd2 sta2 po2 va2 le2) : XS T n (nx T n a) kd2 sta2 po2 va2 le2 := by
  obtain ⟨s1, s2, s3⟩ := hs
  have e := s3.2.1
  subst e
  obtain ⟨h1, h2⟩ := x_next_spec hn ht (ed_iv' hn s2) h
  exact ⟨h1, nx_iv hn s2, h2⟩
theorem qx_label {T tp : Nat → Int32} {n a fn fp kd sta po va r fn2 fp2 kd2 sta2 po2 va2 : Int32} {le le2 : Int64} {w : String} (hn : IV n 0 900) (ht : TpR tp T) (hw : WOk w) (hs : XS T n a kd sta po va le) (h : R_x_isLabelX fn fp n kd sta po va le tp w fn2 fp2 kd2 sta2 po2 va2 le2 r) : XL T n (labS T n w a) fn fp r fn2 fp2 kd2 sta2 po2 va2 le2 := by
  obtain ⟨s1, s2, s3⟩ := hs
  subst s1
  simp only [R_x_isLabelX] at h
  obtain ⟨r1, hr1, h⟩ := h
  rcases x_is_spec hn s2 ht hw s3 hr1 with ⟨q, hq⟩ | ⟨q, hq⟩
  · rw [lab_p hq]
    rcases h with ⟨-, k, s, p, v, l, hx, k1, k2, k3, k4, k5, k6, k7, k8⟩ | ⟨q2, -⟩
    · have := x_next_at hn ht ⟨rfl, s2, s3⟩ hx
      subst k3 k4 k5 k6 k7
      exact ⟨k8, k1, k2, this⟩
    · rw [q] at q2; exact absurd q2 one0
  · rw [lab_n hq]
    rcases h with ⟨q2, -⟩ | ⟨-, f, p, r2, hr, k1, k2, k3, k4, k5, k6, k7, k8⟩
    · exact absurd q q2
    · obtain ⟨b1, b2, b3⟩ := hr
      exact ⟨by rw [k8, b3], by rw [k1, b1], by rw [k2, b2]⟩
theorem qx_whole {T tp : Nat → Int32} {n a lo hi fn fp kd sta po va tk ta r fn2 fp2 kd2 sta2 po2 va2 tk2 ta2 : Int32} {le le2 : Int64} (hn : IV n 0 900) (ht : TpR tp T) (hs : XS T n a kd sta po va le) (h : R_x_isWholeX lo hi fn fp n kd sta po va le tk ta tp fn2 fp2 kd2 sta2 po2 va2 le2 tk2 ta2 r) : XV T n a (numS T n lo hi a) fn fp r fn2 fp2 kd2 sta2 po2 va2 le2 tk2 ta2 := by
  obtain ⟨s1, s2, s3⟩ := hs
  subst s1
  simp only [R_x_isWholeX] at h
  unfold numS numH
  rcases h with ⟨h1, h⟩ | ⟨h1, f, p, r2, hr, k1, k2, k3, k4, k5, k6, k7, k8, k9, k10⟩
  · have t2 := s3.1.symm.trans h1
    have ev : va = valF T n sta := s3.2.2.2 t2
    rw [if_pos t2, ← ev]
    rcases h with ⟨h2, f, p, r2, hr, k1, k2, k3, k4, k5, k6, k7, k8, k9, k10⟩ | ⟨h2, ⟨h3, k, s, p, v, l, hx, k1, k2, k3, k4, k5, k6, k7, k8, k9, k10⟩ | ⟨h3, f, p, r2, hr, k1, k2, k3, k4, k5, k6, k7, k8, k9, k10⟩⟩
    · obtain ⟨b1, b2, b3⟩ := hr
      rw [if_pos h2]
      exact ⟨by rw [k10, b3], by rw [k1, b1], by rw [k2, b2]⟩
    · have := x_next_at hn ht ⟨rfl, s2, s3⟩ hx
      rw [if_neg h2, if_neg (Int32.not_lt.mpr h3)]
      subst k3 k4 k5 k6 k7
      exact ⟨k10, k1, k2, k8, k9, this⟩
    · obtain ⟨b1, b2, b3⟩ := hr
      rw [if_neg h2, if_pos (Int32.not_le.mp h3)]
      exact ⟨by rw [k10, b3], by rw [k1, b1], by rw [k2, b2]⟩
  · obtain ⟨b1, b2, b3⟩ := hr
    rw [if_neg (fun q => h1 (s3.1.trans q))]
    exact ⟨by rw [k10, b3], by rw [k1, b1], by rw [k2, b2]⟩
theorem qx_reserved {T tp : Nat → Int32} {n a kd po va r : Int32} {le : Int64} (hn : IV n 0 900) (ht : TpR tp T) (ha : IV a 0 900) (hk : TokX T n a kd po va le) (h : R_x_isReservedX kd a po tp r) : (r = 1 ∧ ResW T n a) ∨ (r = 0 ∧ ¬ ResW T n a) := by
  simp only [R_x_isReservedX] at h
  obtain ⟨r1, hr1, h⟩ := h
  rcases x_is_spec hn ha ht wok_house hk hr1 with ⟨q, hq⟩ | ⟨q, n0⟩
  case inl =>
    rcases h with ⟨-, h⟩ | ⟨q2, -⟩
    · exact Or.inl ⟨h, Or.inl hq⟩
    · rw [q] at q2; exact absurd q2 one0
  rcases h with ⟨q2, -⟩ | ⟨-, h⟩
  case inl => exact absurd q q2
  clear hr1 q
  obtain ⟨r1, hr1, h⟩ := h
  rcases x_is_spec hn ha ht wok_reel hk hr1 with ⟨q, hq⟩ | ⟨q, n1⟩
  case inl =>
    rcases h with ⟨-, h⟩ | ⟨q2, -⟩
    · exact Or.inl ⟨h, Or.inr (Or.inl hq)⟩
    · rw [q] at q2; exact absurd q2 one0
  rcases h with ⟨q2, -⟩ | ⟨-, h⟩
  case inl => exact absurd q q2
  clear hr1 q
  obtain ⟨r1, hr1, h⟩ := h
  rcases x_is_spec hn ha ht wok_town hk hr1 with ⟨q, hq⟩ | ⟨q, n2⟩
  case inl =>
    rcases h with ⟨-, h⟩ | ⟨q2, -⟩
    · exact Or.inl ⟨h, Or.inr (Or.inr (Or.inl hq))⟩
    · rw [q] at q2; exact absurd q2 one0
  rcases h with ⟨q2, -⟩ | ⟨-, h⟩
  case inl => exact absurd q q2
  clear hr1 q
  obtain ⟨r1, hr1, h⟩ := h
  rcases x_is_spec hn ha ht wok_mark hk hr1 with ⟨q, hq⟩ | ⟨q, n3⟩
  case inl =>
    rcases h with ⟨-, h⟩ | ⟨q2, -⟩
    · exact Or.inl ⟨h, Or.inr (Or.inr (Or.inr (Or.inl hq)))⟩
    · rw [q] at q2; exact absurd q2 one0
  rcases h with ⟨q2, -⟩ | ⟨-, h⟩
  case inl => exact absurd q q2
  clear hr1 q
  obtain ⟨r1, hr1, h⟩ := h
  rcases x_is_spec hn ha ht wok_join hk hr1 with ⟨q, hq⟩ | ⟨q, n4⟩
  case inl =>
    rcases h with ⟨-, h⟩ | ⟨q2, -⟩
    · exact Or.inl ⟨h, Or.inr (Or.inr (Or.inr (Or.inr (Or.inl hq))))⟩
    · rw [q] at q2; exact absurd q2 one0
  rcases h with ⟨q2, -⟩ | ⟨-, h⟩
  case inl => exact absurd q q2
  clear hr1 q
  obtain ⟨r1, hr1, h⟩ := h
  rcases x_is_spec hn ha ht wok_weak hk hr1 with ⟨q, hq⟩ | ⟨q, n5⟩
  case inl =>
    rcases h with ⟨-, h⟩ | ⟨q2, -⟩
    · exact Or.inl ⟨h, Or.inr (Or.inr (Or.inr (Or.inr (Or.inr (Or.inl hq)))))⟩
    · rw [q] at q2; exact absurd q2 one0
  rcases h with ⟨q2, -⟩ | ⟨-, h⟩
  case inl => exact absurd q q2
  clear hr1 q
  obtain ⟨r1, hr1, h⟩ := h
  rcases x_is_spec hn ha ht wok_man hk hr1 with ⟨q, hq⟩ | ⟨q, n6⟩
  case inl =>
    rcases h with ⟨-, h⟩ | ⟨q2, -⟩
    · exact Or.inl ⟨h, Or.inr (Or.inr (Or.inr (Or.inr (Or.inr (Or.inr (Or.inl hq))))))⟩
    · rw [q] at q2; exact absurd q2 one0
  rcases h with ⟨q2, -⟩ | ⟨-, h⟩
  case inl => exact absurd q q2
  clear hr1 q
  obtain ⟨r1, hr1, h⟩ := h
  rcases x_is_spec hn ha ht wok_shows hk hr1 with ⟨q, hq⟩ | ⟨q, n7⟩
  case inl =>
    rcases h with ⟨-, h⟩ | ⟨q2, -⟩
    · exact Or.inl ⟨h, Or.inr (Or.inr (Or.inr (Or.inr (Or.inr (Or.inr (Or.inr (Or.inl hq)))))))⟩
    · rw [q] at q2; exact absurd q2 one0
  rcases h with ⟨q2, -⟩ | ⟨-, h⟩
  case inl => exact absurd q q2
  clear hr1 q
  obtain ⟨r1, hr1, h⟩ := h
  rcases x_is_spec hn ha ht wok_boys hk hr1 with ⟨q, hq⟩ | ⟨q, n8⟩
  case inl =>
    rcases h with ⟨-, h⟩ | ⟨q2, -⟩
    · exact Or.inl ⟨h, Or.inr (Or.inr (Or.inr (Or.inr (Or.inr (Or.inr (Or.inr (Or.inr (Or.inl hq))))))))⟩
    · rw [q] at q2; exact absurd q2 one0
  rcases h with ⟨q2, -⟩ | ⟨-, h⟩
  case inl => exact absurd q q2
  clear hr1 q
  obtain ⟨r1, hr1, h⟩ := h
  rcases x_is_spec hn ha ht wok_by hk hr1 with ⟨q, hq⟩ | ⟨q, n9⟩
  case inl =>
    rcases h with ⟨-, h⟩ | ⟨q2, -⟩
    · exact Or.inl ⟨h, Or.inr (Or.inr (Or.inr (Or.inr (Or.inr (Or.inr (Or.inr (Or.inr (Or.inr (Or.inl hq)))))))))⟩
    · rw [q] at q2; exact absurd q2 one0
  rcases h with ⟨q2, -⟩ | ⟨-, h⟩
  case inl => exact absurd q q2
  clear hr1 q
  obtain ⟨r1, hr1, h⟩ := h
  rcases x_is_spec hn ha ht wok_seen hk hr1 with ⟨q, hq⟩ | ⟨q, n10⟩
  case inl =>
    rcases h with ⟨-, h⟩ | ⟨q2, -⟩
    · exact Or.inl ⟨h, Or.inr (Or.inr (Or.inr (Or.inr (Or.inr (Or.inr (Or.inr (Or.inr (Or.inr (Or.inr (Or.inl hq))))))))))⟩
    · rw [q] at q2; exact absurd q2 one0
  rcases h with ⟨q2, -⟩ | ⟨-, h⟩
  case inl => exact absurd q q2
  clear hr1 q
  obtain ⟨r1, hr1, h⟩ := h
  rcases x_is_spec hn ha ht wok_scratch hk hr1 with ⟨q, hq⟩ | ⟨q, n11⟩
  case inl =>
    rcases h with ⟨q2, -⟩ | ⟨-, h⟩
    · rw [q] at q2; exact absurd q2 one0
    · exact Or.inl ⟨h, Or.inr (Or.inr (Or.inr (Or.inr (Or.inr (Or.inr (Or.inr (Or.inr (Or.inr (Or.inr (Or.inr (hq)))))))))))⟩
  rcases h with ⟨-, h⟩ | ⟨q2, -⟩
  case inr => exact absurd q q2
  clear hr1 q
  refine Or.inr ⟨h, ?_⟩
  unfold ResW
  rintro (q | q | q | q | q | q | q | q | q | q | q | q)
  · exact n0 q
  · exact n1 q
  · exact n2 q
  · exact n3 q
  · exact n4 q
  · exact n5 q
  · exact n6 q
  · exact n7 q
  · exact n8 q
  · exact n9 q
  · exact n10 q
  · exact n11 q
theorem lgc_self {x : Int64} : lg_cmp x x = 0 := by
  unfold lg_cmp
  simp
theorem lgc_eq {x y : Int64} (h : lg_cmp x y = 0) : x = y := by
  unfold lg_cmp at h
  split at h
  · exact absurd h (by decide)
  · split at h
    · first | assumption | (exact absurd h (by decide))
    · first | assumption | (exact absurd h (by decide))
theorem qx_find_L0 {nmf : Nat → Int64} {le : Int64} {ndn r : Int32} (hd : IV ndn 0 16) : ∀ (f : Nat) (u : Int32) (j : Nat), u.toInt = j → (j : Int) ≤ ndn.toInt → (∀ i : Nat, i < j → nmf i ≠ le) → R_x_findNameX_L0 le nmf ndn r (r = -1) (r = -1) f u → (r = -1 ∧ ∀ i : Nat, (i : Int) < ndn.toInt → nmf i ≠ le) ∨ (∃ i : Nat, (i : Int) < ndn.toInt ∧ r.toInt = i ∧ nmf i = le) := by
  intro f
  induction f with
  | zero => intro u j _ _ _ h; exact h.elim
  | succ f ih =>
    intro u j hj hj2 hall h
    simp only [R_x_findNameX_L0] at h
    rcases h with ⟨h1, h⟩ | ⟨h1, h⟩
    · rw [le_I] at h1
      exact Or.inl ⟨h, fun i hi => hall i (by omega)⟩
    · rw [le_I] at h1
      have e16 : (16 : Int32).toInt = 16 := by decide
      rcases h with ⟨h2, h⟩ | ⟨h2, y, hy, z, hz, h⟩
      · rw [le_I, e16] at h2; omega
      · have ej : u.toNatClampNeg = j := by have := tn_i (z := u) (by omega); omega
        rw [ej] at hy
        rcases h with ⟨h3, z9, h9, h⟩ | ⟨h3, h⟩
        · rw [ofI1] at h9
          have e1 := inc1 (u := u) (z := z9) (a := 0) (b := 900) ⟨by omega, by omega⟩ (by omega) (by omega) h9.symm
          refine ih z9 (j + 1) (by omega) (by omega) (fun i hi => ?_) h
          by_cases q : i = j
          · subst q
            intro w
            exact h3 (by rw [hz, hy, w]; exact lgc_self)
          · exact hall i (by omega)
        · refine Or.inr ⟨j, by omega, by rw [h, hj], ?_⟩
          rw [← hy]
          rw [hz] at h3
          exact lgc_eq h3

theorem addJ {x y : Int64} (h1 : -9223372036854775808 ≤ x.toInt + y.toInt) (h2 : x.toInt + y.toInt < 9223372036854775808) : (x + y).toInt = x.toInt + y.toInt := by
  rw [Int64.toInt_add]
  exact Int.bmod_eq_of_le (by omega) (by omega)
theorem mulJ {x y : Int64} (h1 : -9223372036854775808 ≤ x.toInt * y.toInt) (h2 : x.toInt * y.toInt < 9223372036854775808) : (x * y).toInt = x.toInt * y.toInt := by
  rw [Int64.toInt_mul]
  exact Int.bmod_eq_of_le (by omega) (by omega)
def enN (d : Nat → Nat) : Nat → Nat
  | 0 => 0
  | k + 1 => enN d k * 27 + d k
theorem enN_lt {d : Nat → Nat} : ∀ k : Nat, (∀ j, j < k → d j ≤ 26) → enN d k < 27 ^ k := by
  intro k
  induction k with
  | zero => intro _; rw [enN]; exact Nat.one_pos
  | succ k ih =>
    intro h
    have h1 := ih (fun j hj => h j (by omega))
    have h2 := h k (by omega)
    rw [enN, Nat.pow_succ]
    omega
theorem enN_inj {d e : Nat → Nat} : ∀ k l : Nat, (∀ j, j < k → 1 ≤ d j ∧ d j ≤ 26) → (∀ j, j < l → 1 ≤ e j ∧ e j ≤ 26) → enN d k = enN e l → k = l ∧ ∀ j, j < k → d j = e j := by
  intro k
  induction k with
  | zero =>
    intro l _ he h
    cases l with
    | zero => exact ⟨rfl, fun j hj => by omega⟩
    | succ l => have := he l (by omega); rw [enN, enN] at h; omega
  | succ k ih =>
    intro l hd he h
    cases l with
    | zero => have := hd k (by omega); rw [enN, enN] at h; omega
    | succ l =>
      have h1 := hd k (by omega)
      have h2 := he l (by omega)
      rw [enN, enN] at h
      obtain ⟨e1, e2⟩ := ih l (fun j hj => hd j (by omega)) (fun j hj => he j (by omega)) (by omega)
      subst e1
      refine ⟨rfl, fun j hj => ?_⟩
      by_cases q : j = k
      · subst q; omega
      · exact e2 j (by omega)
theorem enF_N {G : Nat → Int32} {b : Nat} : ∀ k : Nat, k ≤ 8 → (∀ j, j < k → IV (G (b + j)) 97 122) → (enF G b k).toInt = enN (fun j => (G (b + j)).toInt.toNat - 96) k := by
  intro k
  induction k with
  | zero => intro _ _; rw [enF, enN]; decide
  | succ k ih =>
    intro hk h
    have h1 := ih (by omega) (fun j hj => h j (by omega))
    have h2 := h k (by omega)
    have h3 := enN_lt (d := fun j => (G (b + j)).toInt.toNat - 96) k (fun j hj => by have := h j (by omega); show (G (b + j)).toInt.toNat - 96 ≤ 26; omega)
    have h4 : (27 : Nat) ^ k ≤ 27 ^ 8 := Nat.pow_le_pow_right (by decide) (by omega)
    have h5 : (27 : Nat) ^ 8 = 282429536481 := by decide
    rw [enF, enN]
    have e27 : (27 : Int64).toInt = 27 := by decide
    have m1 : (enF G b k * 27).toInt = (enF G b k).toInt * 27 := by
      rw [mulJ (by rw [e27]; omega) (by rw [e27]; omega), e27]
    have a1 : (G (b + k) - 97).toInt = (G (b + k)).toInt - 97 := by
      rw [subI (by rw [n97]; omega) (by rw [n97]; omega), n97]
    have a2 : (G (b + k) - 97 + 1).toInt = (G (b + k)).toInt - 96 := by
      rw [addI (by rw [a1, oneI]; omega) (by rw [a1, oneI]; omega), a1, oneI]; omega
    rw [addJ (by rw [m1, i2l_I, a2]; omega) (by rw [m1, i2l_I, a2]; omega), m1, i2l_I, a2, h1]
    omega
theorem enF_inj {G H : Nat → Int32} {b c k l : Nat} (hk : k ≤ 8) (hl : l ≤ 8) (hG : ∀ j, j < k → IV (G (b + j)) 97 122) (hH : ∀ j, j < l → IV (H (c + j)) 97 122) (h : enF G b k = enF H c l) : k = l ∧ ∀ j, j < k → G (b + j) = H (c + j) := by
  have h1 := enF_N k hk hG
  have h2 := enF_N l hl hH
  rw [h, h2] at h1
  obtain ⟨e1, e2⟩ := enN_inj k l (fun j hj => by have := hG j hj; show 1 ≤ (G (b + j)).toInt.toNat - 96 ∧ (G (b + j)).toInt.toNat - 96 ≤ 26; omega) (fun j hj => by have := hH j hj; show 1 ≤ (H (c + j)).toInt.toNat - 96 ∧ (H (c + j)).toInt.toNat - 96 ≤ 26; omega) (by omega)
  refine ⟨e1, fun j hj => Int32.toInt_inj.mp ?_⟩
  have := e2 j hj
  have g1 := hG j hj
  have g2 := hH j (by omega)
  have this : (G (b + j)).toInt.toNat - 96 = (H (c + j)).toInt.toNat - 96 := this
  omega
theorem enF_congr {G H : Nat → Int32} {b c : Nat} : ∀ k : Nat, (∀ j, j < k → G (b + j) = H (c + j)) → enF G b k = enF H c k := by
  intro k
  induction k with
  | zero => intro _; rfl
  | succ k ih => intro h; rw [enF, enF, ih (fun j hj => h j (by omega)), h k (by omega)]
def slot (s k : Int32) : Nat := if s = 0 then k.toInt.toNat else if s = 1 then 8 + k.toInt.toNat else 12 + k.toInt.toNat
def SortOk (s k : Int32) : Prop := (s = 0 ∧ IV k 0 7) ∨ (s = 1 ∧ IV k 0 3) ∨ (s = 2 ∧ IV k 0 3)
theorem slot_lt {s k : Int32} (h : SortOk s k) : slot s k < 16 := by
  unfold slot
  rcases h with ⟨h1, h2⟩ | ⟨h1, h2⟩ | ⟨h1, h2⟩
  · rw [if_pos h1]; omega
  · rw [if_neg (by rw [h1]; decide), if_pos h1]; omega
  · rw [if_neg (by rw [h1]; decide), if_neg (by rw [h1]; decide)]; omega
def NRow (F : Nat → Int32) (j : Nat) (x : Int64) : Prop := ∃ l : Nat, (F (167 + j)).toInt = l ∧ 1 ≤ l ∧ l ≤ 8 ∧ (∀ k : Nat, k < l → IV (F (183 + 8 * j + k)) 97 122) ∧ x = enF F (183 + 8 * j) l
/-- the class's names are the reference's -/
def NRel (F : Nat → Int32) (nmf : Nat → Int64) (ndf : Nat → Int32) (ndn : Int32) : Prop := IV ndn 0 16 ∧ (∀ i : Nat, (i : Int) < ndn.toInt → SortOk (ndf (2 * i)) (ndf (2 * i + 1)) ∧ NRow F (slot (ndf (2 * i)) (ndf (2 * i + 1))) (nmf i)) ∧ (∀ j : Nat, j < 16 → 0 < (F (167 + j)).toInt → ∃ i : Nat, (i : Int) < ndn.toInt ∧ slot (ndf (2 * i)) (ndf (2 * i + 1)) = j) ∧ (∀ i i' : Nat, (i : Int) < ndn.toInt → (i' : Int) < ndn.toInt → nmf i = nmf i' → i = i')
theorem nm_iff {F T : Nat → Int32} {n a : Int32} {j : Nat} {x : Int64} (hn : IV n 0 900) (ha : IV a 0 900) (h1 : tkF T n a = 1) (hr : NRow F j x) : x = enF T a.toNatClampNeg (lnF T n a) ↔ NmAt F T n a j := by
  obtain ⟨l, e1, e2, e3, e4, e5⟩ := hr
  obtain ⟨q, i, hi, h8, hi1, hl, he⟩ := tk1_inv hn ha h1
  constructor
  · intro h
    rw [e5] at h
    obtain ⟨g1, g2⟩ := enF_inj e3 (by omega) e4 (fun k hk => (word_ch hn ha h1 hk).2) h
    exact ⟨by omega, by omega, fun k hk => g2 k (by omega)⟩
  · rintro ⟨g1, g2, g3⟩
    have : l = lnF T n a := by omega
    subst this
    rw [e5]
    exact enF_congr _ g3
theorem findG_none {F T : Nat → Int32} {n a : Int32} : ∀ g j : Nat, (∀ i : Nat, j ≤ i → i < j + g → ¬ NmAt F T n a i) → findG F T n a g j = -1 := by
  intro g
  induction g with
  | zero => intro j _; rfl
  | succ g ih =>
    intro j h
    rw [findG, if_neg (h j (by omega) (by omega))]
    exact ih (j + 1) (fun i h1 h2 => h i (by omega) (by omega))
theorem findG_some {F T : Nat → Int32} {n a : Int32} {s : Nat} (hs : NmAt F T n a s) (hu : ∀ i : Nat, i < 16 → NmAt F T n a i → i = s) : ∀ g j : Nat, j ≤ s → s < j + g → j + g ≤ 16 → findG F T n a g j = nI s := by
  intro g
  induction g with
  | zero => intro j _ _; omega
  | succ g ih =>
    intro j h1 h2 h3
    rw [findG]
    by_cases q : j = s
    · subst q; rw [if_pos hs]
    · rw [if_neg (fun w => q (hu j (by omega) w))]
      exact ih (j + 1) (by omega) (by omega) (by omega)
theorem qx_find {F T : Nat → Int32} {nmf : Nat → Int64} {ndf : Nat → Int32} {n a ndn r : Int32} (hn : IV n 0 900) (ha : IV a 0 900) (h1 : tkF T n a = 1) (hr : NRel F nmf ndf ndn) (h : R_x_findNameX (enF T a.toNatClampNeg (lnF T n a)) nmf ndn r) : (r = -1 ∧ findS F T n a = -1) ∨ (∃ i : Nat, (i : Int) < ndn.toInt ∧ r.toInt = i ∧ SortOk (ndf (2 * i)) (ndf (2 * i + 1)) ∧ findS F T n a = nI (slot (ndf (2 * i)) (ndf (2 * i + 1)))) := by
  obtain ⟨d1, d2, d3, d4⟩ := hr
  simp only [R_x_findNameX] at h
  obtain ⟨f, h⟩ := h
  rcases qx_find_L0 d1 f 0 0 (by decide) (by have := d1; omega) (fun i hi => by omega) h with ⟨e1, e2⟩ | ⟨i, e1, e2, e3⟩
  · refine Or.inl ⟨e1, findG_none 16 0 (fun j _ hj hN => ?_)⟩
    obtain ⟨i, i1, i2⟩ := d3 j (by omega) hN.1
    have := (d2 i i1).2
    rw [i2] at this
    exact e2 i i1 ((nm_iff hn ha h1 this).mpr hN)
  · obtain ⟨g1, g2⟩ := d2 i e1
    have hN := (nm_iff hn ha h1 g2).mp e3
    refine Or.inr ⟨i, e1, e2, g1, findG_some hN (fun j hj hM => ?_) 16 0 (by first | decide | omega) (by have := slot_lt g1; omega) (by omega)⟩
    obtain ⟨i', i1, i2⟩ := d3 j hj hM.1
    have := (d2 i' i1).2
    rw [i2] at this
    have := d4 i' i i1 e1 (((nm_iff hn ha h1 this).mpr hM).trans e3.symm)
    subst this
    exact i2.symm
