set_option maxRecDepth 100000
set_option maxHeartbeats 4000000
/-- what the class has read is what the reference has read -/
def HRel (F : Nat → Int32) (ndn : Int32) (nmf : Nat → Int64) (ndf : Nat → Int32) (qrn : Int32) (qrf : Nat → Int32) (qmn : Int32) (qmf : Nat → Int32) (qwn : Int32) (qwf : Nat → Int32) (qpn qhnn qhtn qhjn qhmn qhbn qhsn qhcn : Int32) : Prop :=
  (qhnn = F 15 ∧ (F 15 = 0 ∨ F 15 = 1)) ∧ (qrn = F 6 ∧ qhtn = F 7 ∧ qmn = F 8 ∧ qhjn = F 9 ∧ qwn = F 10 ∧ qhmn = F 11 ∧ qpn = F 12 ∧ qhsn = F 13 ∧ qhcn = F 14) ∧ FIv F ∧ IV (F 12) 0 8 ∧
  ((qhbn = 0 ∧ F 134 = 0) ∨ (qhbn = 1 ∧ 0 < (F 134).toInt)) ∧
  (∀ k : Nat, (k : Int) < (F 6).toInt → qrf (3 * k) = F (16 + 3 * k)) ∧
  (∀ k : Nat, (k : Int) < (F 8).toInt → qmf (3 * k) = F (44 + 3 * k) ∧ qmf (3 * k + 2) = F (44 + 3 * k + 2) ∧ 0 ≤ (qmf (3 * k + 1)).toInt) ∧
  (∀ k : Nat, (k : Int) < (F 10).toInt → qwf (3 * k) = F (96 + 3 * k) ∧ qwf (3 * k + 1) = F (96 + 3 * k + 1)) ∧
  NRel F nmf ndf ndn ∧ ndn.toInt = (F 6).toInt + (F 7).toInt + (F 11).toInt ∧
  (∀ j : Nat, j < 8 → (F 6).toInt ≤ j → ¬ 0 < (F (167 + j)).toInt) ∧ (∀ j : Nat, j < 4 → (F 7).toInt ≤ j → ¬ 0 < (F (175 + j)).toInt) ∧ (∀ j : Nat, j < 4 → (F 11).toInt ≤ j → ¬ 0 < (F (179 + j)).toInt) ∧
  (F 15 = 0 → F 6 = 0 ∧ F 7 = 0 ∧ F 8 = 0 ∧ F 9 = 0 ∧ F 10 = 0 ∧ F 11 = 0 ∧ F 12 = 0 ∧ F 13 = 0 ∧ F 14 = 0 ∧ F 134 = 0) ∧ (0 < (F 13).toInt → 0 < (F 12).toInt)
def XF (T : Nat → Int32) (n : Int32) (σ : Rs ((Nat → Int32) × Int32)) (fn fp r fn2 fp2 kd2 sta2 po2 va2 : Int32) (le2 : Int64) (H : (Nat → Int32) → Prop) : Prop := match σ with
  | .inl e => r = 0 ∧ fn2 = e.1 ∧ fp2 = e.2
  | .inr v => r = 1 ∧ fn2 = fn ∧ fp2 = fp ∧ XS T n v.2 kd2 sta2 po2 va2 le2 ∧ H v.1
def roomS (T : Nat → Int32) (n c x a : Int32) : Rs Int32 := if c ≤ x then .inl (5, a) else .inr (nx T n a)
theorem room_opn {F T : Nat → Int32} {n c x a : Int32} (h : F 15 ≠ 0) : opnS F T n (bcap c x) a = roomS T n c x a := by
  unfold opnS bcap roomS
  by_cases q : c ≤ x
  · rw [if_pos q, if_pos rfl, if_pos q]
  · rw [if_neg q, if_neg one0, if_neg h, if_neg q]
theorem XL_l {T : Nat → Int32} {n fn fp r fn2 fp2 kd2 sta2 po2 va2 : Int32} {le2 : Int64} {e : Int32 × Int32} (h : XL T n (.inl e) fn fp r fn2 fp2 kd2 sta2 po2 va2 le2) : r = 0 ∧ fn2 = e.1 ∧ fp2 = e.2 := h
theorem XL_r {T : Nat → Int32} {n fn fp r fn2 fp2 kd2 sta2 po2 va2 : Int32} {le2 : Int64} {b : Int32} (h : XL T n (.inr b) fn fp r fn2 fp2 kd2 sta2 po2 va2 le2) : r = 1 ∧ fn2 = fn ∧ fp2 = fp ∧ XS T n b kd2 sta2 po2 va2 le2 := h
theorem XV_l {T : Nat → Int32} {n a fn fp r fn2 fp2 kd2 sta2 po2 va2 tk2 ta2 : Int32} {le2 : Int64} {e : Int32 × Int32} (h : XV T n a (.inl e) fn fp r fn2 fp2 kd2 sta2 po2 va2 le2 tk2 ta2) : r = 0 ∧ fn2 = e.1 ∧ fp2 = e.2 := h
theorem XV_r {T : Nat → Int32} {n a fn fp r fn2 fp2 kd2 sta2 po2 va2 tk2 ta2 : Int32} {le2 : Int64} {v : Int32 × Int32} (h : XV T n a (.inr v) fn fp r fn2 fp2 kd2 sta2 po2 va2 le2 tk2 ta2) : r = 1 ∧ fn2 = fn ∧ fp2 = fp ∧ tk2 = v.1 ∧ ta2 = a ∧ XS T n v.2 kd2 sta2 po2 va2 le2 := h
theorem XN_l {T : Nat → Int32} {n fn fp r fn2 fp2 kd2 sta2 po2 va2 ndk ndn : Int32} {le2 : Int64} {nmg : Nat → Int64} {ndg : Nat → Int32} {e : Int32 × Int32} (h : XN T n (.inl e) fn fp r fn2 fp2 kd2 sta2 po2 va2 le2 nmg ndg ndk ndn) : r = 0 ∧ fn2 = e.1 ∧ fp2 = e.2 := h
theorem XN_r {T : Nat → Int32} {n fn fp r fn2 fp2 kd2 sta2 po2 va2 ndk ndn : Int32} {le2 : Int64} {nmg : Nat → Int64} {ndg : Nat → Int32} {v : (Nat → Int32) × Int32} (h : XN T n (.inr v) fn fp r fn2 fp2 kd2 sta2 po2 va2 le2 nmg ndg ndk ndn) : r = 1 ∧ fn2 = fn ∧ fp2 = fp ∧ NRel v.1 nmg ndg ndk ∧ ndk = ndn + 1 ∧ XS T n v.2 kd2 sta2 po2 va2 le2 := h
theorem qx_room0 {T tp : Nat → Int32} {n a fn fp kd sta po va x r fn2 fp2 kd2 sta2 po2 va2 : Int32} {le le2 : Int64} (hn : IV n 0 900) (ht : TpR tp T) (hs : XS T n a kd sta po va le) (h : R_x_hasRoom0X fn fp n kd sta po va le tp x fn2 fp2 kd2 sta2 po2 va2 le2 r) : XL T n (roomS T n 8 x a) fn fp r fn2 fp2 kd2 sta2 po2 va2 le2 := by
  simp only [R_x_hasRoom0X] at h
  obtain ⟨r1, hr1, h⟩ := h
  unfold roomS
  by_cases q : x < 8
  · rw [if_pos q] at hr1
    rw [if_neg (Int32.not_le.mpr q)]
    rcases h with ⟨-, k', s', p', v', l', hx, k1, k2, k3, k4, k5, k6, k7, k8⟩ | ⟨q2, -⟩
    · have := x_next_at hn ht hs hx
      subst k3 k4 k5 k6 k7
      exact ⟨k8, k1, k2, this⟩
    · exact absurd hr1 q2
  · rw [if_neg q] at hr1
    rw [if_pos (Int32.not_lt.mp q)]
    rcases h with ⟨q2, -⟩ | ⟨-, f, p, r2, ⟨b1, b2, b3⟩, k1, k2, k3, k4, k5, k6, k7, k8⟩
    · rw [hr1] at q2; exact absurd q2 one0
    · obtain ⟨s1, s2, s3⟩ := hs
      exact ⟨by rw [k8, b3], by rw [k1, b1], by rw [k2, b2, s1]⟩
theorem qx_room1 {T tp : Nat → Int32} {n a fn fp kd sta po va x r fn2 fp2 kd2 sta2 po2 va2 : Int32} {le le2 : Int64} (hn : IV n 0 900) (ht : TpR tp T) (hs : XS T n a kd sta po va le) (h : R_x_hasRoom1X fn fp n kd sta po va le tp x fn2 fp2 kd2 sta2 po2 va2 le2 r) : XL T n (roomS T n 4 x a) fn fp r fn2 fp2 kd2 sta2 po2 va2 le2 := by
  simp only [R_x_hasRoom1X] at h
  obtain ⟨r1, hr1, h⟩ := h
  unfold roomS
  by_cases q : x < 4
  · rw [if_pos q] at hr1
    rw [if_neg (Int32.not_le.mpr q)]
    rcases h with ⟨-, k', s', p', v', l', hx, k1, k2, k3, k4, k5, k6, k7, k8⟩ | ⟨q2, -⟩
    · have := x_next_at hn ht hs hx
      subst k3 k4 k5 k6 k7
      exact ⟨k8, k1, k2, this⟩
    · exact absurd hr1 q2
  · rw [if_neg q] at hr1
    rw [if_pos (Int32.not_lt.mp q)]
    rcases h with ⟨q2, -⟩ | ⟨-, f, p, r2, ⟨b1, b2, b3⟩, k1, k2, k3, k4, k5, k6, k7, k8⟩
    · rw [hr1] at q2; exact absurd q2 one0
    · obtain ⟨s1, s2, s3⟩ := hs
      exact ⟨by rw [k8, b3], by rw [k1, b1], by rw [k2, b2, s1]⟩
theorem qx_room2 {T tp : Nat → Int32} {n a fn fp kd sta po va x r fn2 fp2 kd2 sta2 po2 va2 : Int32} {le le2 : Int64} (hn : IV n 0 900) (ht : TpR tp T) (hs : XS T n a kd sta po va le) (h : R_x_hasRoom2X fn fp n kd sta po va le tp x fn2 fp2 kd2 sta2 po2 va2 le2 r) : XL T n (roomS T n 12 x a) fn fp r fn2 fp2 kd2 sta2 po2 va2 le2 := by
  simp only [R_x_hasRoom2X] at h
  obtain ⟨r1, hr1, h⟩ := h
  unfold roomS
  by_cases q : x < 12
  · rw [if_pos q] at hr1
    rw [if_neg (Int32.not_le.mpr q)]
    rcases h with ⟨-, k', s', p', v', l', hx, k1, k2, k3, k4, k5, k6, k7, k8⟩ | ⟨q2, -⟩
    · have := x_next_at hn ht hs hx
      subst k3 k4 k5 k6 k7
      exact ⟨k8, k1, k2, this⟩
    · exact absurd hr1 q2
  · rw [if_neg q] at hr1
    rw [if_pos (Int32.not_lt.mp q)]
    rcases h with ⟨q2, -⟩ | ⟨-, f, p, r2, ⟨b1, b2, b3⟩, k1, k2, k3, k4, k5, k6, k7, k8⟩
    · rw [hr1] at q2; exact absurd q2 one0
    · obtain ⟨s1, s2, s3⟩ := hs
      exact ⟨by rw [k8, b3], by rw [k1, b1], by rw [k2, b2, s1]⟩
theorem qx_room3 {T tp : Nat → Int32} {n a fn fp kd sta po va x r fn2 fp2 kd2 sta2 po2 va2 : Int32} {le le2 : Int64} (hn : IV n 0 900) (ht : TpR tp T) (hs : XS T n a kd sta po va le) (h : R_x_hasRoom3X fn fp n kd sta po va le tp x fn2 fp2 kd2 sta2 po2 va2 le2 r) : XL T n (roomS T n 8 x a) fn fp r fn2 fp2 kd2 sta2 po2 va2 le2 := by
  simp only [R_x_hasRoom3X] at h
  obtain ⟨r1, hr1, h⟩ := h
  unfold roomS
  by_cases q : x < 8
  · rw [if_pos q] at hr1
    rw [if_neg (Int32.not_le.mpr q)]
    rcases h with ⟨-, k', s', p', v', l', hx, k1, k2, k3, k4, k5, k6, k7, k8⟩ | ⟨q2, -⟩
    · have := x_next_at hn ht hs hx
      subst k3 k4 k5 k6 k7
      exact ⟨k8, k1, k2, this⟩
    · exact absurd hr1 q2
  · rw [if_neg q] at hr1
    rw [if_pos (Int32.not_lt.mp q)]
    rcases h with ⟨q2, -⟩ | ⟨-, f, p, r2, ⟨b1, b2, b3⟩, k1, k2, k3, k4, k5, k6, k7, k8⟩
    · rw [hr1] at q2; exact absurd q2 one0
    · obtain ⟨s1, s2, s3⟩ := hs
      exact ⟨by rw [k8, b3], by rw [k1, b1], by rw [k2, b2, s1]⟩
theorem qx_room4 {T tp : Nat → Int32} {n a fn fp kd sta po va x r fn2 fp2 kd2 sta2 po2 va2 : Int32} {le le2 : Int64} (hn : IV n 0 900) (ht : TpR tp T) (hs : XS T n a kd sta po va le) (h : R_x_hasRoom4X fn fp n kd sta po va le tp x fn2 fp2 kd2 sta2 po2 va2 le2 r) : XL T n (roomS T n 6 x a) fn fp r fn2 fp2 kd2 sta2 po2 va2 le2 := by
  simp only [R_x_hasRoom4X] at h
  obtain ⟨r1, hr1, h⟩ := h
  unfold roomS
  by_cases q : x < 6
  · rw [if_pos q] at hr1
    rw [if_neg (Int32.not_le.mpr q)]
    rcases h with ⟨-, k', s', p', v', l', hx, k1, k2, k3, k4, k5, k6, k7, k8⟩ | ⟨q2, -⟩
    · have := x_next_at hn ht hs hx
      subst k3 k4 k5 k6 k7
      exact ⟨k8, k1, k2, this⟩
    · exact absurd hr1 q2
  · rw [if_neg q] at hr1
    rw [if_pos (Int32.not_lt.mp q)]
    rcases h with ⟨q2, -⟩ | ⟨-, f, p, r2, ⟨b1, b2, b3⟩, k1, k2, k3, k4, k5, k6, k7, k8⟩
    · rw [hr1] at q2; exact absurd q2 one0
    · obtain ⟨s1, s2, s3⟩ := hs
      exact ⟨by rw [k8, b3], by rw [k1, b1], by rw [k2, b2, s1]⟩
theorem qx_room5 {T tp : Nat → Int32} {n a fn fp kd sta po va x r fn2 fp2 kd2 sta2 po2 va2 : Int32} {le le2 : Int64} (hn : IV n 0 900) (ht : TpR tp T) (hs : XS T n a kd sta po va le) (h : R_x_hasRoom5X fn fp n kd sta po va le tp x fn2 fp2 kd2 sta2 po2 va2 le2 r) : XL T n (roomS T n 4 x a) fn fp r fn2 fp2 kd2 sta2 po2 va2 le2 := by
  simp only [R_x_hasRoom5X] at h
  obtain ⟨r1, hr1, h⟩ := h
  unfold roomS
  by_cases q : x < 4
  · rw [if_pos q] at hr1
    rw [if_neg (Int32.not_le.mpr q)]
    rcases h with ⟨-, k', s', p', v', l', hx, k1, k2, k3, k4, k5, k6, k7, k8⟩ | ⟨q2, -⟩
    · have := x_next_at hn ht hs hx
      subst k3 k4 k5 k6 k7
      exact ⟨k8, k1, k2, this⟩
    · exact absurd hr1 q2
  · rw [if_neg q] at hr1
    rw [if_pos (Int32.not_lt.mp q)]
    rcases h with ⟨q2, -⟩ | ⟨-, f, p, r2, ⟨b1, b2, b3⟩, k1, k2, k3, k4, k5, k6, k7, k8⟩
    · rw [hr1] at q2; exact absurd q2 one0
    · obtain ⟨s1, s2, s3⟩ := hs
      exact ⟨by rw [k8, b3], by rw [k1, b1], by rw [k2, b2, s1]⟩
theorem qx_room6 {T tp : Nat → Int32} {n a fn fp kd sta po va x r fn2 fp2 kd2 sta2 po2 va2 : Int32} {le le2 : Int64} (hn : IV n 0 900) (ht : TpR tp T) (hs : XS T n a kd sta po va le) (h : R_x_hasRoom6X fn fp n kd sta po va le tp x fn2 fp2 kd2 sta2 po2 va2 le2 r) : XL T n (roomS T n 6 x a) fn fp r fn2 fp2 kd2 sta2 po2 va2 le2 := by
  simp only [R_x_hasRoom6X] at h
  obtain ⟨r1, hr1, h⟩ := h
  unfold roomS
  by_cases q : x < 6
  · rw [if_pos q] at hr1
    rw [if_neg (Int32.not_le.mpr q)]
    rcases h with ⟨-, k', s', p', v', l', hx, k1, k2, k3, k4, k5, k6, k7, k8⟩ | ⟨q2, -⟩
    · have := x_next_at hn ht hs hx
      subst k3 k4 k5 k6 k7
      exact ⟨k8, k1, k2, this⟩
    · exact absurd hr1 q2
  · rw [if_neg q] at hr1
    rw [if_pos (Int32.not_lt.mp q)]
    rcases h with ⟨q2, -⟩ | ⟨-, f, p, r2, ⟨b1, b2, b3⟩, k1, k2, k3, k4, k5, k6, k7, k8⟩
    · rw [hr1] at q2; exact absurd q2 one0
    · obtain ⟨s1, s2, s3⟩ := hs
      exact ⟨by rw [k8, b3], by rw [k1, b1], by rw [k2, b2, s1]⟩
theorem wrN_lt {F T : Nat → Int32} {n a : Int32} {s i : Nat} (h : i < 167) : wrN F T n a s i = F i := by
  unfold wrN
  rw [upd_ne (by omega), wrL_lt _ _ (by omega)]
theorem new_inr {F T : Nat → Int32} {n a : Int32} {s : Nat} {v : (Nat → Int32) × Int32} (h : newS F T n s a = .inr v) : v.1 = wrN F T n a s ∧ v.2 = nx T n a := by
  unfold newS at h
  by_cases ok : NameOk T n a
  · rw [if_pos ok] at h
    split at h
    · have := Sum.inr.inj h; subst this; exact ⟨rfl, rfl⟩
    · cases h
  · rw [if_neg ok] at h; cases h
