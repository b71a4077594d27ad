set_option maxRecDepth 100000
set_option maxHeartbeats 4000000
/-- what the class has read is what the reference has read -/
def HRel (F : Nat → Int32) (ndn : Int32) (nmf : Nat → Int64) (ndf : Nat → Int32) (qrn : Int32) (qrf : Nat → Int32) (qmn : Int32) (qmf : Nat → Int32) (qwn : Int32) (qwf : Nat → Int32) (qpn qhnn qhtn qhjn qhmn qhbn qhsn qhcn : Int32) : Prop :=
  (qhnn = F 15 ∧ (F 15 = 0 ∨ F 15 = 1)) ∧ (qrn = F 6 ∧ qhtn = F 7 ∧ qmn = F 8 ∧ qhjn = F 9 ∧ qwn = F 10 ∧ qhmn = F 11 ∧ qpn = F 12 ∧ qhsn = F 13 ∧ qhcn = F 14) ∧ FIv F ∧ IV (F 12) 0 8 ∧
  ((qhbn = 0 ∧ F 134 = 0) ∨ (qhbn = 1 ∧ 0 < (F 134).toInt)) ∧
  (∀ k : Nat, (k : Int) < (F 6).toInt → qrf (3 * k) = F (16 + 3 * k)) ∧
  (∀ k : Nat, (k : Int) < (F 8).toInt → qmf (3 * k) = F (44 + 3 * k) ∧ qmf (3 * k + 2) = F (44 + 3 * k + 2) ∧ 0 ≤ (qmf (3 * k + 1)).toInt) ∧
  (∀ k : Nat, (k : Int) < (F 10).toInt → qwf (3 * k) = F (96 + 3 * k) ∧ qwf (3 * k + 1) = F (96 + 3 * k + 1)) ∧
  NRel F nmf ndf ndn ∧ ndn.toInt = (F 6).toInt + (F 7).toInt + (F 11).toInt ∧
  (∀ j : Nat, j < 8 → (F 6).toInt ≤ j → ¬ 0 < (F (167 + j)).toInt) ∧ (∀ j : Nat, j < 4 → (F 7).toInt ≤ j → ¬ 0 < (F (175 + j)).toInt) ∧ (∀ j : Nat, j < 4 → (F 11).toInt ≤ j → ¬ 0 < (F (179 + j)).toInt) ∧
  (F 15 = 0 → F 6 = 0 ∧ F 7 = 0 ∧ F 8 = 0 ∧ F 9 = 0 ∧ F 10 = 0 ∧ F 11 = 0 ∧ F 12 = 0 ∧ F 13 = 0 ∧ F 14 = 0 ∧ F 134 = 0) ∧ (0 < (F 13).toInt → 0 < (F 12).toInt)
def XF (T : Nat → Int32) (n : Int32) (σ : Rs ((Nat → Int32) × Int32)) (fn fp r fn2 fp2 kd2 sta2 po2 va2 : Int32) (le2 : Int64) (H : (Nat → Int32) → Prop) : Prop := match σ with
  | .inl e => r = 0 ∧ fn2 = e.1 ∧ fp2 = e.2
  | .inr v => r = 1 ∧ fn2 = fn ∧ fp2 = fp ∧ XS T n v.2 kd2 sta2 po2 va2 le2 ∧ H v.1
def roomS (T : Nat → Int32) (n c x a : Int32) : Rs Int32 := if c ≤ x then .inl (5, a) else .inr (nx T n a)
theorem room_opn {F T : Nat → Int32} {n c x a : Int32} (h : F 15 ≠ 0) : opnS F T n (bcap c x) a = roomS T n c x a := by
  unfold opnS bcap roomS
  by_cases q : c ≤ x
  · rw [if_pos q, if_pos rfl, if_pos q]
  · rw [if_neg q, if_neg one0, if_neg h, if_neg q]
theorem XL_l {T : Nat → Int32} {n fn fp r fn2 fp2 kd2 sta2 po2 va2 : Int32} {le2 : Int64} {e : Int32 × Int32} (h : XL T n (.inl e) fn fp r fn2 fp2 kd2 sta2 po2 va2 le2) : r = 0 ∧ fn2 = e.1 ∧ fp2 = e.2 := h
theorem XL_r {T : Nat → Int32} {n fn fp r fn2 fp2 kd2 sta2 po2 va2 : Int32} {le2 : Int64} {b : Int32} (h : XL T n (.inr b) fn fp r fn2 fp2 kd2 sta2 po2 va2 le2) : r = 1 ∧ fn2 = fn ∧ fp2 = fp ∧ XS T n b kd2 sta2 po2 va2 le2 := h
theorem XV_l {T : Nat → Int32} {n a fn fp r fn2 fp2 kd2 sta2 po2 va2 tk2 ta2 : Int32} {le2 : Int64} {e : Int32 × Int32} (h : XV T n a (.inl e) fn fp r fn2 fp2 kd2 sta2 po2 va2 le2 tk2 ta2) : r = 0 ∧ fn2 = e.1 ∧ fp2 = e.2 := h
theorem XV_r {T : Nat → Int32} {n a fn fp r fn2 fp2 kd2 sta2 po2 va2 tk2 ta2 : Int32} {le2 : Int64} {v : Int32 × Int32} (h : XV T n a (.inr v) fn fp r fn2 fp2 kd2 sta2 po2 va2 le2 tk2 ta2) : r = 1 ∧ fn2 = fn ∧ fp2 = fp ∧ tk2 = v.1 ∧ ta2 = a ∧ XS T n v.2 kd2 sta2 po2 va2 le2 := h
theorem XN_l {T : Nat → Int32} {n fn fp r fn2 fp2 kd2 sta2 po2 va2 ndk ndn : Int32} {le2 : Int64} {nmg : Nat → Int64} {ndg : Nat → Int32} {e : Int32 × Int32} (h : XN T n (.inl e) fn fp r fn2 fp2 kd2 sta2 po2 va2 le2 nmg ndg ndk ndn) : r = 0 ∧ fn2 = e.1 ∧ fp2 = e.2 := h
theorem XN_r {T : Nat → Int32} {n fn fp r fn2 fp2 kd2 sta2 po2 va2 ndk ndn : Int32} {le2 : Int64} {nmg : Nat → Int64} {ndg : Nat → Int32} {v : (Nat → Int32) × Int32} (h : XN T n (.inr v) fn fp r fn2 fp2 kd2 sta2 po2 va2 le2 nmg ndg ndk ndn) : r = 1 ∧ fn2 = fn ∧ fp2 = fp ∧ NRel v.1 nmg ndg ndk ∧ ndk = ndn + 1 ∧ XS T n v.2 kd2 sta2 po2 va2 le2 := h
theorem qx_room0 {T tp : Nat → Int32} {n a fn fp kd sta po va x r fn2 fp2 kd2 sta2 po2 va2 : Int32} {le le2 : Int64} (hn : IV n 0 900) (ht : TpR tp T) (hs : XS T n a kd sta po va le) (h : R_x_hasRoom0X fn fp n kd sta po va le tp x fn2 fp2 kd2 sta2 po2 va2 le2 r) : XL T n (roomS T n 8 x a) fn fp r fn2 fp2 kd2 sta2 po2 va2 le2 := by
  simp only [R_x_hasRoom0X] at h
  obtain ⟨r1, hr1, h⟩ := h
  unfold roomS
  by_cases q : x < 8
  · rw [if_pos q] at hr1
    rw [if_neg (Int32.not_le.mpr q)]
    rcases h with ⟨-, k', s', p', v', l', hx, k1, k2, k3, k4, k5, k6, k7, k8⟩ | ⟨q2, -⟩
    · have := x_next_at hn ht hs hx
      subst k3 k4 k5 k6 k7
      exact ⟨k8, k1, k2, this⟩
    · exact absurd hr1 q2
  · rw [if_neg q] at hr1
    rw [if_pos (Int32.not_lt.mp q)]
    rcases h with ⟨q2, -⟩ | ⟨-, f, p, r2, ⟨b1, b2, b3⟩, k1, k2, k3, k4, k5, k6, k7, k8⟩
    · rw [hr1] at q2; exact absurd q2 one0
    · obtain ⟨s1, s2, s3⟩ := hs
      exact ⟨by rw [k8, b3], by rw [k1, b1], by rw [k2, b2, s1]⟩
theorem qx_room1 {T tp : Nat → Int32} {n a fn fp kd sta po va x r fn2 fp2 kd2 sta2 po2 va2 : Int32} {le le2 : Int64} (hn : IV n 0 900) (ht : TpR tp T) (hs : XS T n a kd sta po va le) (h : R_x_hasRoom1X fn fp n kd sta po va le tp x fn2 fp2 kd2 sta2 po2 va2 le2 r) : XL T n (roomS T n 4 x a) fn fp r fn2 fp2 kd2 sta2 po2 va2 le2 := by
  simp only [R_x_hasRoom1X] at h
  obtain ⟨r1, hr1, h⟩ := h
  unfold roomS
  by_cases q : x < 4
  · rw [if_pos q] at hr1
    rw [if_neg (Int32.not_le.mpr q)]
    rcases h with ⟨-, k', s', p', v', l', hx, k1, k2, k3, k4, k5, k6, k7, k8⟩ | ⟨q2, -⟩
    · have := x_next_at hn ht hs hx
      subst k3 k4 k5 k6 k7
      exact ⟨k8, k1, k2, this⟩
    · exact absurd hr1 q2
  · rw [if_neg q] at hr1
    rw [if_pos (Int32.not_lt.mp q)]
    rcases h with ⟨q2, -⟩ | ⟨-, f, p, r2, ⟨b1, b2, b3⟩, k1, k2, k3, k4, k5, k6, k7, k8⟩
    · rw [hr1] at q2; exact absurd q2 one0
    · obtain ⟨s1, s2, s3⟩ := hs
      exact ⟨by rw [k8, b3], by rw [k1, b1], by rw [k2, b2, s1]⟩
theorem qx_room2 {T tp : Nat → Int32} {n a fn fp kd sta po va x r fn2 fp2 kd2 sta2 po2 va2 : Int32} {le le2 : Int64} (hn : IV n 0 900) (ht : TpR tp T) (hs : XS T n a kd sta po va le) (h : R_x_hasRoom2X fn fp n kd sta po va le tp x fn2 fp2 kd2 sta2 po2 va2 le2 r) : XL T n (roomS T n 12 x a) fn fp r fn2 fp2 kd2 sta2 po2 va2 le2 := by
  simp only [R_x_hasRoom2X] at h
  obtain ⟨r1, hr1, h⟩ := h
  unfold roomS
  by_cases q : x < 12
  · rw [if_pos q] at hr1
    rw [if_neg (Int32.not_le.mpr q)]
    rcases h with ⟨-, k', s', p', v', l', hx, k1, k2, k3, k4, k5, k6, k7, k8⟩ | ⟨q2, -⟩
    · have := x_next_at hn ht hs hx
      subst k3 k4 k5 k6 k7
      exact ⟨k8, k1, k2, this⟩
    · exact absurd hr1 q2
  · rw [if_neg q] at hr1
    rw [if_pos (Int32.not_lt.mp q)]
    rcases h with ⟨q2, -⟩ | ⟨-, f, p, r2, ⟨b1, b2, b3⟩, k1, k2, k3, k4, k5, k6, k7, k8⟩
    · rw [hr1] at q2; exact absurd q2 one0
    · obtain ⟨s1, s2, s3⟩ := hs
      exact ⟨by rw [k8, b3], by rw [k1, b1], by rw [k2, b2, s1]⟩
theorem qx_room3 {T tp : Nat → Int32} {n a fn fp kd sta po va x r fn2 fp2 kd2 sta2 po2 va2 : Int32} {le le2 : Int64} (hn : IV n 0 900) (ht : TpR tp T) (hs : XS T n a kd sta po va le) (h : R_x_hasRoom3X fn fp n kd sta po va le tp x fn2 fp2 kd2 sta2 po2 va2 le2 r) : XL T n (roomS T n 8 x a) fn fp r fn2 fp2 kd2 sta2 po2 va2 le2 := by
  simp only [R_x_hasRoom3X] at h
  obtain ⟨r1, hr1, h⟩ := h
  unfold roomS
  by_cases q : x < 8
  · rw [if_pos q] at hr1
    rw [if_neg (Int32.not_le.mpr q)]
    rcases h with ⟨-, k', s', p', v', l', hx, k1, k2, k3, k4, k5, k6, k7, k8⟩ | ⟨q2, -⟩
    · have := x_next_at hn ht hs hx
      subst k3 k4 k5 k6 k7
      exact ⟨k8, k1, k2, this⟩
    · exact absurd hr1 q2
  · rw [if_neg q] at hr1
    rw [if_pos (Int32.not_lt.mp q)]
    rcases h with ⟨q2, -⟩ | ⟨-, f, p, r2, ⟨b1, b2, b3⟩, k1, k2, k3, k4, k5, k6, k7, k8⟩
    · rw [hr1] at q2; exact absurd q2 one0
    · obtain ⟨s1, s2, s3⟩ := hs
      exact ⟨by rw [k8, b3], by rw [k1, b1], by rw [k2, b2, s1]⟩
theorem qx_room4 {T tp : Nat → Int32} {n a fn fp kd sta po va x r fn2 fp2 kd2 sta2 po2 va2 : Int32} {le le2 : Int64} (hn : IV n 0 900) (ht : TpR tp T) (hs : XS T n a kd sta po va le) (h : R_x_hasRoom4X fn fp n kd sta po va le tp x fn2 fp2 kd2 sta2 po2 va2 le2 r) : XL T n (roomS T n 6 x a) fn fp r fn2 fp2 kd2 sta2 po2 va2 le2 := by
  simp only [R_x_hasRoom4X] at h
  obtain ⟨r1, hr1, h⟩ := h
  unfold roomS
  by_cases q : x < 6
  · rw [if_pos q] at hr1
    rw [if_neg (Int32.not_le.mpr q)]
    rcases h with ⟨-, k', s', p', v', l', hx, k1, k2, k3, k4, k5, k6, k7, k8⟩ | ⟨q2, -⟩
    · have := x_next_at hn ht hs hx
      subst k3 k4 k5 k6 k7
      exact ⟨k8, k1, k2, this⟩
    · exact absurd hr1 q2
  · rw [if_neg q] at hr1
    rw [if_pos (Int32.not_lt.mp q)]
    rcases h with ⟨q2, -⟩ | ⟨-, f, p, r2, ⟨b1, b2, b3⟩, k1, k2, k3, k4, k5, k6, k7, k8⟩
    · rw [hr1] at q2; exact absurd q2 one0
    · obtain ⟨s1, s2, s3⟩ := hs
      exact ⟨by rw [k8, b3], by rw [k1, b1], by rw [k2, b2, s1]⟩
theorem qx_room5 {T tp : Nat → Int32} {n a fn fp kd sta po va x r fn2 fp2 kd2 sta2 po2 va2 : Int32} {le le2 : Int64} (hn : IV n 0 900) (ht : TpR tp T) (hs : XS T n a kd sta po va le) (h : R_x_hasRoom5X fn fp n kd sta po va le tp x fn2 fp2 kd2 sta2 po2 va2 le2 r) : XL T n (roomS T n 4 x a) fn fp r fn2 fp2 kd2 sta2 po2 va2 le2 := by
  simp only [R_x_hasRoom5X] at h
  obtain ⟨r1, hr1, h⟩ := h
  unfold roomS
  by_cases q : x < 4
  · rw [if_pos q] at hr1
    rw [if_neg (Int32.not_le.mpr q)]
    rcases h with ⟨-, k', s', p', v', l', hx, k1, k2, k3, k4, k5, k6, k7, k8⟩ | ⟨q2, -⟩
    · have := x_next_at hn ht hs hx
      subst k3 k4 k5 k6 k7
      exact ⟨k8, k1, k2, this⟩
    · exact absurd hr1 q2
  · rw [if_neg q] at hr1
    rw [if_pos (Int32.not_lt.mp q)]
    rcases h with ⟨q2, -⟩ | ⟨-, f, p, r2, ⟨b1, b2, b3⟩, k1, k2, k3, k4, k5, k6, k7, k8⟩
    · rw [hr1] at q2; exact absurd q2 one0
    · obtain ⟨s1, s2, s3⟩ := hs
      exact ⟨by rw [k8, b3], by rw [k1, b1], by rw [k2, b2, s1]⟩
theorem qx_room6 {T tp : Nat → Int32} {n a fn fp kd sta po va x r fn2 fp2 kd2 sta2 po2 va2 : Int32} {le le2 : Int64} (hn : IV n 0 900) (ht : TpR tp T) (hs : XS T n a kd sta po va le) (h : R_x_hasRoom6X fn fp n kd sta po va le tp x fn2 fp2 kd2 sta2 po2 va2 le2 r) : XL T n (roomS T n 6 x a) fn fp r fn2 fp2 kd2 sta2 po2 va2 le2 := by
  simp only [R_x_hasRoom6X] at h
  obtain ⟨r1, hr1, h⟩ := h
  unfold roomS
  by_cases q : x < 6
  · rw [if_pos q] at hr1
    rw [if_neg (Int32.not_le.mpr q)]
    rcases h with ⟨-, k', s', p', v', l', hx, k1, k2, k3, k4, k5, k6, k7, k8⟩ | ⟨q2, -⟩
    · have := x_next_at hn ht hs hx
      subst k3 k4 k5 k6 k7
      exact ⟨k8, k1, k2, this⟩
    · exact absurd hr1 q2
  · rw [if_neg q] at hr1
    rw [if_pos (Int32.not_lt.mp q)]
    rcases h with ⟨q2, -⟩ | ⟨-, f, p, r2, ⟨b1, b2, b3⟩, k1, k2, k3, k4, k5, k6, k7, k8⟩
    · rw [hr1] at q2; exact absurd q2 one0
    · obtain ⟨s1, s2, s3⟩ := hs
      exact ⟨by rw [k8, b3], by rw [k1, b1], by rw [k2, b2, s1]⟩
theorem wrN_lt {F T : Nat → Int32} {n a : Int32} {s i : Nat} (h : i < 167) : wrN F T n a s i = F i := by
  unfold wrN
  rw [upd_ne (by omega), wrL_lt _ _ (by omega)]
theorem new_inr {F T : Nat → Int32} {n a : Int32} {s : Nat} {v : (Nat → Int32) × Int32} (h : newS F T n s a = .inr v) : v.1 = wrN F T n a s ∧ v.2 = nx T n a := by
  unfold newS at h
  by_cases ok : NameOk T n a
  · rw [if_pos ok] at h
    split at h
    · have := Sum.inr.inj h; subst this; exact ⟨rfl, rfl⟩
    · cases h
  · rw [if_neg ok] at h; cases h
/-- all that the tables of the class hold is what the reference has read -/
def TV (F f : Nat → Int32) (c b w : Nat) : Prop := ∀ k j : Nat, (k : Int) < (F c).toInt → j < w → f (w * k + j) = F (b + w * k + j)
def HV (F qrf qmf qwf qpf qhnf qhtf qhjf qhmf qhbf qhsf qhcf : Nat → Int32) : Prop := TV F qrf 6 16 3 ∧ TV F qmf 8 44 3 ∧ TV F qwf 10 96 3 ∧ (∀ k : Nat, (k : Int) < (F 12).toInt → qpf (2 * k) = F (126 + k) ∧ qpf (2 * k + 1) = F 2) ∧ (F 15 ≠ 0 → ∀ j : Nat, j < 6 → qhnf j = F j) ∧ TV F qhtf 7 40 1 ∧ TV F qhjf 9 80 2 ∧ (∀ k : Nat, (k : Int) < (F 11).toInt → qhmf (3 * k) = F (114 + 3 * k) ∧ qhmf (3 * k + 2) = F (114 + 3 * k + 2) ∧ (F (114 + 3 * k) = 3 → qhmf (3 * k + 1) = F (114 + 3 * k + 1))) ∧ (0 < (F 134).toInt → ∀ j : Nat, j < 3 → qhbf j = F (134 + j)) ∧ TV F qhsf 13 137 3 ∧ TV F qhcf 14 155 2
theorem TV_keep {F G f : Nat → Int32} {c b w cap : Nat} (h : TV F f c b w) (hc : G c = F c) (hcap : (F c).toInt ≤ cap) (hG : ∀ i : Nat, b ≤ i → i < b + w * cap → G i = F i) : TV G f c b w := by
  intro k j hk hj
  rw [hc] at hk
  have h1 : w * k + w ≤ w * cap := by
    have : w * (k + 1) ≤ w * cap := Nat.mul_le_mul_left w (by omega)
    rw [Nat.mul_add, Nat.mul_one] at this
    exact this
  rw [hG _ (by omega) (by omega)]
  exact h k j hk hj
theorem TV_add {F G f g : Nat → Int32} {c b w m : Nat} (h : TV F f c b w) (hm : (F c).toInt = m) (hc : (G c).toInt = m + 1) (hG : ∀ i : Nat, b ≤ i → i < b + w * m → G i = F i) (hf : ∀ i : Nat, i < w * m → g i = f i) (hn : ∀ j : Nat, j < w → g (w * m + j) = G (b + w * m + j)) : TV G g c b w := by
  intro k j hk hj
  by_cases q : k = m
  · subst q; exact hn j hj
  · have h1 : w * k + w ≤ w * m := by
      have : w * (k + 1) ≤ w * m := Nat.mul_le_mul_left w (by omega)
      rw [Nat.mul_add, Nat.mul_one] at this
      exact this
    rw [hG _ (by omega) (by omega), hf _ (by omega)]
    exact h k j (by omega) hj
theorem TV_nil {F f : Nat → Int32} {c b w : Nat} (h : F c = 0) : TV F f c b w := by
  intro k j hk
  rw [h, zI] at hk
  omega
theorem HV_reel {F G g qrf qmf qwf qpf qhnf qhtf qhjf qhmf qhbf qhsf qhcf : Nat → Int32} {x0 x1 x2 : Int32} {m : Nat} (hV : HV F qrf qmf qwf qpf qhnf qhtf qhjf qhmf qhbf qhsf qhcf) (hF : FIv F) (c12 : IV (F 12) 0 8) (hm : (F 6).toInt = m) (lt : m < 8) (KX : (G 6).toInt = m + 1) (KS : ∀ i : Nat, i < 167 → i ≠ 6 → (i < 16 + 3 * m ∨ 16 + 3 * m + 3 ≤ i) → G i = F i) (KN0 : G (16 + 3 * m) = x0) (KN1 : G (16 + 3 * m + 1) = x1) (KN2 : G (16 + 3 * m + 2) = x2) (hg : g = (upd (upd (upd qrf (m * 3 + 0) x0) (m * 3 + 1) x1) (m * 3 + 2) x2)) : HV G g qmf qwf qpf qhnf qhtf qhjf qhmf qhbf qhsf qhcf := by
  obtain ⟨v_qrf, v_qmf, v_qwf, v_qpf, v_qhnf, v_qhtf, v_qhjf, v_qhmf, v_qhbf, v_qhsf, v_qhcf⟩ := hV
  obtain ⟨⟨i6, j6⟩, ⟨i7, j7⟩, ⟨i8, j8⟩, ⟨i9, j9⟩, ⟨i10, j10⟩, ⟨i11, j11⟩, ⟨i13, j13⟩, ⟨i14, j14⟩⟩ := hF
  obtain ⟨i12, j12⟩ := c12
  refine ⟨?_, TV_keep (cap := 12) v_qmf (KS 8 (by first | decide | omega) (by first | decide | omega) (by first | decide | omega)) (by omega) (fun i q1 q2 => (KS i (by omega) (by omega) (by omega))), TV_keep (cap := 6) v_qwf (KS 10 (by first | decide | omega) (by first | decide | omega) (by first | decide | omega)) (by omega) (fun i q1 q2 => (KS i (by omega) (by omega) (by omega))), (fun k hk => by rw [(KS 12 (by first | decide | omega) (by first | decide | omega) (by first | decide | omega))] at hk; rw [(KS (126 + k) (by omega) (by omega) (by omega)), (KS 2 (by first | decide | omega) (by first | decide | omega) (by first | decide | omega))]; exact v_qpf k hk), (fun q j hj => by rw [(KS 15 (by first | decide | omega) (by first | decide | omega) (by first | decide | omega))] at q; rw [(KS j (by omega) (by omega) (by omega))]; exact v_qhnf q j hj), TV_keep (cap := 4) v_qhtf (KS 7 (by first | decide | omega) (by first | decide | omega) (by first | decide | omega)) (by omega) (fun i q1 q2 => (KS i (by omega) (by omega) (by omega))), TV_keep (cap := 8) v_qhjf (KS 9 (by first | decide | omega) (by first | decide | omega) (by first | decide | omega)) (by omega) (fun i q1 q2 => (KS i (by omega) (by omega) (by omega))), (fun k hk => by rw [(KS 11 (by first | decide | omega) (by first | decide | omega) (by first | decide | omega))] at hk; rw [(KS (114 + 3 * k) (by omega) (by omega) (by omega)), (KS (114 + 3 * k + 2) (by omega) (by omega) (by omega)), (KS (114 + 3 * k + 1) (by omega) (by omega) (by omega))]; exact v_qhmf k hk), (fun q j hj => by rw [(KS 134 (by first | decide | omega) (by first | decide | omega) (by first | decide | omega))] at q; rw [(KS (134 + j) (by omega) (by omega) (by omega))]; exact v_qhbf q j hj), TV_keep (cap := 6) v_qhsf (KS 13 (by first | decide | omega) (by first | decide | omega) (by first | decide | omega)) (by omega) (fun i q1 q2 => (KS i (by omega) (by omega) (by omega))), TV_keep (cap := 6) v_qhcf (KS 14 (by first | decide | omega) (by first | decide | omega) (by first | decide | omega)) (by omega) (fun i q1 q2 => (KS i (by omega) (by omega) (by omega)))⟩
  refine TV_add (m := m) v_qrf hm KX (fun i q1 q2 => KS i (by omega) (by omega) (by omega)) (fun i q => by rw [hg, upd_ne (by omega), upd_ne (by omega), upd_ne (by omega)]) (fun j hj => ?_)
  have hj' : j = 0 ∨ j = 1 ∨ j = 2 := by omega
  rcases hj' with rfl | rfl | rfl
  · rw [Nat.add_zero, Nat.add_zero, KN0, hg, upd_ne (by omega), upd_ne (by omega), show 3 * m = m * 3 + 0 by omega, upd_at]
  · rw [KN1, hg, upd_ne (by omega), show 3 * m + 1 = m * 3 + 1 by omega, upd_at]
  · rw [KN2, hg, show 3 * m + 2 = m * 3 + 2 by omega, upd_at]
theorem HV_mark {F G g qrf qmf qwf qpf qhnf qhtf qhjf qhmf qhbf qhsf qhcf : Nat → Int32} {x0 x1 x2 : Int32} {m : Nat} (hV : HV F qrf qmf qwf qpf qhnf qhtf qhjf qhmf qhbf qhsf qhcf) (hF : FIv F) (c12 : IV (F 12) 0 8) (hm : (F 8).toInt = m) (lt : m < 12) (KX : (G 8).toInt = m + 1) (KS : ∀ i : Nat, i < 167 → i ≠ 8 → (i < 44 + 3 * m ∨ 44 + 3 * m + 3 ≤ i) → G i = F i) (KN0 : G (44 + 3 * m) = x0) (KN1 : G (44 + 3 * m + 1) = x1) (KN2 : G (44 + 3 * m + 2) = x2) (hg : g = (upd (upd (upd qmf (m * 3 + 0) x0) (m * 3 + 1) x1) (m * 3 + 2) x2)) : HV G qrf g qwf qpf qhnf qhtf qhjf qhmf qhbf qhsf qhcf := by
  obtain ⟨v_qrf, v_qmf, v_qwf, v_qpf, v_qhnf, v_qhtf, v_qhjf, v_qhmf, v_qhbf, v_qhsf, v_qhcf⟩ := hV
  obtain ⟨⟨i6, j6⟩, ⟨i7, j7⟩, ⟨i8, j8⟩, ⟨i9, j9⟩, ⟨i10, j10⟩, ⟨i11, j11⟩, ⟨i13, j13⟩, ⟨i14, j14⟩⟩ := hF
  obtain ⟨i12, j12⟩ := c12
  refine ⟨TV_keep (cap := 8) v_qrf (KS 6 (by first | decide | omega) (by first | decide | omega) (by first | decide | omega)) (by omega) (fun i q1 q2 => (KS i (by omega) (by omega) (by omega))), ?_, TV_keep (cap := 6) v_qwf (KS 10 (by first | decide | omega) (by first | decide | omega) (by first | decide | omega)) (by omega) (fun i q1 q2 => (KS i (by omega) (by omega) (by omega))), (fun k hk => by rw [(KS 12 (by first | decide | omega) (by first | decide | omega) (by first | decide | omega))] at hk; rw [(KS (126 + k) (by omega) (by omega) (by omega)), (KS 2 (by first | decide | omega) (by first | decide | omega) (by first | decide | omega))]; exact v_qpf k hk), (fun q j hj => by rw [(KS 15 (by first | decide | omega) (by first | decide | omega) (by first | decide | omega))] at q; rw [(KS j (by omega) (by omega) (by omega))]; exact v_qhnf q j hj), TV_keep (cap := 4) v_qhtf (KS 7 (by first | decide | omega) (by first | decide | omega) (by first | decide | omega)) (by omega) (fun i q1 q2 => (KS i (by omega) (by omega) (by omega))), TV_keep (cap := 8) v_qhjf (KS 9 (by first | decide | omega) (by first | decide | omega) (by first | decide | omega)) (by omega) (fun i q1 q2 => (KS i (by omega) (by omega) (by omega))), (fun k hk => by rw [(KS 11 (by first | decide | omega) (by first | decide | omega) (by first | decide | omega))] at hk; rw [(KS (114 + 3 * k) (by omega) (by omega) (by omega)), (KS (114 + 3 * k + 2) (by omega) (by omega) (by omega)), (KS (114 + 3 * k + 1) (by omega) (by omega) (by omega))]; exact v_qhmf k hk), (fun q j hj => by rw [(KS 134 (by first | decide | omega) (by first | decide | omega) (by first | decide | omega))] at q; rw [(KS (134 + j) (by omega) (by omega) (by omega))]; exact v_qhbf q j hj), TV_keep (cap := 6) v_qhsf (KS 13 (by first | decide | omega) (by first | decide | omega) (by first | decide | omega)) (by omega) (fun i q1 q2 => (KS i (by omega) (by omega) (by omega))), TV_keep (cap := 6) v_qhcf (KS 14 (by first | decide | omega) (by first | decide | omega) (by first | decide | omega)) (by omega) (fun i q1 q2 => (KS i (by omega) (by omega) (by omega)))⟩
  refine TV_add (m := m) v_qmf hm KX (fun i q1 q2 => KS i (by omega) (by omega) (by omega)) (fun i q => by rw [hg, upd_ne (by omega), upd_ne (by omega), upd_ne (by omega)]) (fun j hj => ?_)
  have hj' : j = 0 ∨ j = 1 ∨ j = 2 := by omega
  rcases hj' with rfl | rfl | rfl
  · rw [Nat.add_zero, Nat.add_zero, KN0, hg, upd_ne (by omega), upd_ne (by omega), show 3 * m = m * 3 + 0 by omega, upd_at]
  · rw [KN1, hg, upd_ne (by omega), show 3 * m + 1 = m * 3 + 1 by omega, upd_at]
  · rw [KN2, hg, show 3 * m + 2 = m * 3 + 2 by omega, upd_at]
theorem HV_weak {F G g qrf qmf qwf qpf qhnf qhtf qhjf qhmf qhbf qhsf qhcf : Nat → Int32} {x0 x1 x2 : Int32} {m : Nat} (hV : HV F qrf qmf qwf qpf qhnf qhtf qhjf qhmf qhbf qhsf qhcf) (hF : FIv F) (c12 : IV (F 12) 0 8) (hm : (F 10).toInt = m) (lt : m < 6) (KX : (G 10).toInt = m + 1) (KS : ∀ i : Nat, i < 167 → i ≠ 10 → (i < 96 + 3 * m ∨ 96 + 3 * m + 3 ≤ i) → G i = F i) (KN0 : G (96 + 3 * m) = x0) (KN1 : G (96 + 3 * m + 1) = x1) (KN2 : G (96 + 3 * m + 2) = x2) (hg : g = (upd (upd (upd qwf (m * 3 + 0) x0) (m * 3 + 1) x1) (m * 3 + 2) x2)) : HV G qrf qmf g qpf qhnf qhtf qhjf qhmf qhbf qhsf qhcf := by
  obtain ⟨v_qrf, v_qmf, v_qwf, v_qpf, v_qhnf, v_qhtf, v_qhjf, v_qhmf, v_qhbf, v_qhsf, v_qhcf⟩ := hV
  obtain ⟨⟨i6, j6⟩, ⟨i7, j7⟩, ⟨i8, j8⟩, ⟨i9, j9⟩, ⟨i10, j10⟩, ⟨i11, j11⟩, ⟨i13, j13⟩, ⟨i14, j14⟩⟩ := hF
  obtain ⟨i12, j12⟩ := c12
  refine ⟨TV_keep (cap := 8) v_qrf (KS 6 (by first | decide | omega) (by first | decide | omega) (by first | decide | omega)) (by omega) (fun i q1 q2 => (KS i (by omega) (by omega) (by omega))), TV_keep (cap := 12) v_qmf (KS 8 (by first | decide | omega) (by first | decide | omega) (by first | decide | omega)) (by omega) (fun i q1 q2 => (KS i (by omega) (by omega) (by omega))), ?_, (fun k hk => by rw [(KS 12 (by first | decide | omega) (by first | decide | omega) (by first | decide | omega))] at hk; rw [(KS (126 + k) (by omega) (by omega) (by omega)), (KS 2 (by first | decide | omega) (by first | decide | omega) (by first | decide | omega))]; exact v_qpf k hk), (fun q j hj => by rw [(KS 15 (by first | decide | omega) (by first | decide | omega) (by first | decide | omega))] at q; rw [(KS j (by omega) (by omega) (by omega))]; exact v_qhnf q j hj), TV_keep (cap := 4) v_qhtf (KS 7 (by first | decide | omega) (by first | decide | omega) (by first | decide | omega)) (by omega) (fun i q1 q2 => (KS i (by omega) (by omega) (by omega))), TV_keep (cap := 8) v_qhjf (KS 9 (by first | decide | omega) (by first | decide | omega) (by first | decide | omega)) (by omega) (fun i q1 q2 => (KS i (by omega) (by omega) (by omega))), (fun k hk => by rw [(KS 11 (by first | decide | omega) (by first | decide | omega) (by first | decide | omega))] at hk; rw [(KS (114 + 3 * k) (by omega) (by omega) (by omega)), (KS (114 + 3 * k + 2) (by omega) (by omega) (by omega)), (KS (114 + 3 * k + 1) (by omega) (by omega) (by omega))]; exact v_qhmf k hk), (fun q j hj => by rw [(KS 134 (by first | decide | omega) (by first | decide | omega) (by first | decide | omega))] at q; rw [(KS (134 + j) (by omega) (by omega) (by omega))]; exact v_qhbf q j hj), TV_keep (cap := 6) v_qhsf (KS 13 (by first | decide | omega) (by first | decide | omega) (by first | decide | omega)) (by omega) (fun i q1 q2 => (KS i (by omega) (by omega) (by omega))), TV_keep (cap := 6) v_qhcf (KS 14 (by first | decide | omega) (by first | decide | omega) (by first | decide | omega)) (by omega) (fun i q1 q2 => (KS i (by omega) (by omega) (by omega)))⟩
  refine TV_add (m := m) v_qwf hm KX (fun i q1 q2 => KS i (by omega) (by omega) (by omega)) (fun i q => by rw [hg, upd_ne (by omega), upd_ne (by omega), upd_ne (by omega)]) (fun j hj => ?_)
  have hj' : j = 0 ∨ j = 1 ∨ j = 2 := by omega
  rcases hj' with rfl | rfl | rfl
  · rw [Nat.add_zero, Nat.add_zero, KN0, hg, upd_ne (by omega), upd_ne (by omega), show 3 * m = m * 3 + 0 by omega, upd_at]
  · rw [KN1, hg, upd_ne (by omega), show 3 * m + 1 = m * 3 + 1 by omega, upd_at]
  · rw [KN2, hg, show 3 * m + 2 = m * 3 + 2 by omega, upd_at]
theorem HV_town {F G g qrf qmf qwf qpf qhnf qhtf qhjf qhmf qhbf qhsf qhcf : Nat → Int32} {x0 : Int32} {m : Nat} (hV : HV F qrf qmf qwf qpf qhnf qhtf qhjf qhmf qhbf qhsf qhcf) (hF : FIv F) (c12 : IV (F 12) 0 8) (hm : (F 7).toInt = m) (lt : m < 4) (KX : (G 7).toInt = m + 1) (KS : ∀ i : Nat, i < 167 → i ≠ 7 → (i < 40 + 1 * m ∨ 40 + 1 * m + 1 ≤ i) → G i = F i) (KN0 : G (40 + 1 * m) = x0) (hg : g = (upd qhtf (m * 1 + 0) x0)) : HV G qrf qmf qwf qpf qhnf g qhjf qhmf qhbf qhsf qhcf := by
  obtain ⟨v_qrf, v_qmf, v_qwf, v_qpf, v_qhnf, v_qhtf, v_qhjf, v_qhmf, v_qhbf, v_qhsf, v_qhcf⟩ := hV
  obtain ⟨⟨i6, j6⟩, ⟨i7, j7⟩, ⟨i8, j8⟩, ⟨i9, j9⟩, ⟨i10, j10⟩, ⟨i11, j11⟩, ⟨i13, j13⟩, ⟨i14, j14⟩⟩ := hF
  obtain ⟨i12, j12⟩ := c12
  refine ⟨TV_keep (cap := 8) v_qrf (KS 6 (by first | decide | omega) (by first | decide | omega) (by first | decide | omega)) (by omega) (fun i q1 q2 => (KS i (by omega) (by omega) (by omega))), TV_keep (cap := 12) v_qmf (KS 8 (by first | decide | omega) (by first | decide | omega) (by first | decide | omega)) (by omega) (fun i q1 q2 => (KS i (by omega) (by omega) (by omega))), TV_keep (cap := 6) v_qwf (KS 10 (by first | decide | omega) (by first | decide | omega) (by first | decide | omega)) (by omega) (fun i q1 q2 => (KS i (by omega) (by omega) (by omega))), (fun k hk => by rw [(KS 12 (by first | decide | omega) (by first | decide | omega) (by first | decide | omega))] at hk; rw [(KS (126 + k) (by omega) (by omega) (by omega)), (KS 2 (by first | decide | omega) (by first | decide | omega) (by first | decide | omega))]; exact v_qpf k hk), (fun q j hj => by rw [(KS 15 (by first | decide | omega) (by first | decide | omega) (by first | decide | omega))] at q; rw [(KS j (by omega) (by omega) (by omega))]; exact v_qhnf q j hj), ?_, TV_keep (cap := 8) v_qhjf (KS 9 (by first | decide | omega) (by first | decide | omega) (by first | decide | omega)) (by omega) (fun i q1 q2 => (KS i (by omega) (by omega) (by omega))), (fun k hk => by rw [(KS 11 (by first | decide | omega) (by first | decide | omega) (by first | decide | omega))] at hk; rw [(KS (114 + 3 * k) (by omega) (by omega) (by omega)), (KS (114 + 3 * k + 2) (by omega) (by omega) (by omega)), (KS (114 + 3 * k + 1) (by omega) (by omega) (by omega))]; exact v_qhmf k hk), (fun q j hj => by rw [(KS 134 (by first | decide | omega) (by first | decide | omega) (by first | decide | omega))] at q; rw [(KS (134 + j) (by omega) (by omega) (by omega))]; exact v_qhbf q j hj), TV_keep (cap := 6) v_qhsf (KS 13 (by first | decide | omega) (by first | decide | omega) (by first | decide | omega)) (by omega) (fun i q1 q2 => (KS i (by omega) (by omega) (by omega))), TV_keep (cap := 6) v_qhcf (KS 14 (by first | decide | omega) (by first | decide | omega) (by first | decide | omega)) (by omega) (fun i q1 q2 => (KS i (by omega) (by omega) (by omega)))⟩
  refine TV_add (m := m) v_qhtf hm KX (fun i q1 q2 => KS i (by omega) (by omega) (by omega)) (fun i q => by rw [hg, upd_ne (by omega)]) (fun j hj => ?_)
  have hj' : j = 0 := by omega
  rcases hj' with rfl
  · rw [Nat.add_zero, Nat.add_zero, KN0, hg, show 1 * m = m * 1 + 0 by omega, upd_at]
theorem HV_join {F G g qrf qmf qwf qpf qhnf qhtf qhjf qhmf qhbf qhsf qhcf : Nat → Int32} {x0 x1 : Int32} {m : Nat} (hV : HV F qrf qmf qwf qpf qhnf qhtf qhjf qhmf qhbf qhsf qhcf) (hF : FIv F) (c12 : IV (F 12) 0 8) (hm : (F 9).toInt = m) (lt : m < 8) (KX : (G 9).toInt = m + 1) (KS : ∀ i : Nat, i < 167 → i ≠ 9 → (i < 80 + 2 * m ∨ 80 + 2 * m + 2 ≤ i) → G i = F i) (KN0 : G (80 + 2 * m) = x0) (KN1 : G (80 + 2 * m + 1) = x1) (hg : g = (upd (upd qhjf (m * 2 + 0) x0) (m * 2 + 1) x1)) : HV G qrf qmf qwf qpf qhnf qhtf g qhmf qhbf qhsf qhcf := by
  obtain ⟨v_qrf, v_qmf, v_qwf, v_qpf, v_qhnf, v_qhtf, v_qhjf, v_qhmf, v_qhbf, v_qhsf, v_qhcf⟩ := hV
  obtain ⟨⟨i6, j6⟩, ⟨i7, j7⟩, ⟨i8, j8⟩, ⟨i9, j9⟩, ⟨i10, j10⟩, ⟨i11, j11⟩, ⟨i13, j13⟩, ⟨i14, j14⟩⟩ := hF
  obtain ⟨i12, j12⟩ := c12
  refine ⟨TV_keep (cap := 8) v_qrf (KS 6 (by first | decide | omega) (by first | decide | omega) (by first | decide | omega)) (by omega) (fun i q1 q2 => (KS i (by omega) (by omega) (by omega))), TV_keep (cap := 12) v_qmf (KS 8 (by first | decide | omega) (by first | decide | omega) (by first | decide | omega)) (by omega) (fun i q1 q2 => (KS i (by omega) (by omega) (by omega))), TV_keep (cap := 6) v_qwf (KS 10 (by first | decide | omega) (by first | decide | omega) (by first | decide | omega)) (by omega) (fun i q1 q2 => (KS i (by omega) (by omega) (by omega))), (fun k hk => by rw [(KS 12 (by first | decide | omega) (by first | decide | omega) (by first | decide | omega))] at hk; rw [(KS (126 + k) (by omega) (by omega) (by omega)), (KS 2 (by first | decide | omega) (by first | decide | omega) (by first | decide | omega))]; exact v_qpf k hk), (fun q j hj => by rw [(KS 15 (by first | decide | omega) (by first | decide | omega) (by first | decide | omega))] at q; rw [(KS j (by omega) (by omega) (by omega))]; exact v_qhnf q j hj), TV_keep (cap := 4) v_qhtf (KS 7 (by first | decide | omega) (by first | decide | omega) (by first | decide | omega)) (by omega) (fun i q1 q2 => (KS i (by omega) (by omega) (by omega))), ?_, (fun k hk => by rw [(KS 11 (by first | decide | omega) (by first | decide | omega) (by first | decide | omega))] at hk; rw [(KS (114 + 3 * k) (by omega) (by omega) (by omega)), (KS (114 + 3 * k + 2) (by omega) (by omega) (by omega)), (KS (114 + 3 * k + 1) (by omega) (by omega) (by omega))]; exact v_qhmf k hk), (fun q j hj => by rw [(KS 134 (by first | decide | omega) (by first | decide | omega) (by first | decide | omega))] at q; rw [(KS (134 + j) (by omega) (by omega) (by omega))]; exact v_qhbf q j hj), TV_keep (cap := 6) v_qhsf (KS 13 (by first | decide | omega) (by first | decide | omega) (by first | decide | omega)) (by omega) (fun i q1 q2 => (KS i (by omega) (by omega) (by omega))), TV_keep (cap := 6) v_qhcf (KS 14 (by first | decide | omega) (by first | decide | omega) (by first | decide | omega)) (by omega) (fun i q1 q2 => (KS i (by omega) (by omega) (by omega)))⟩
  refine TV_add (m := m) v_qhjf hm KX (fun i q1 q2 => KS i (by omega) (by omega) (by omega)) (fun i q => by rw [hg, upd_ne (by omega), upd_ne (by omega)]) (fun j hj => ?_)
  have hj' : j = 0 ∨ j = 1 := by omega
  rcases hj' with rfl | rfl
  · rw [Nat.add_zero, Nat.add_zero, KN0, hg, upd_ne (by omega), show 2 * m = m * 2 + 0 by omega, upd_at]
  · rw [KN1, hg, show 2 * m + 1 = m * 2 + 1 by omega, upd_at]
theorem HV_seen {F G g qrf qmf qwf qpf qhnf qhtf qhjf qhmf qhbf qhsf qhcf : Nat → Int32} {x0 x1 x2 : Int32} {m : Nat} (hV : HV F qrf qmf qwf qpf qhnf qhtf qhjf qhmf qhbf qhsf qhcf) (hF : FIv F) (c12 : IV (F 12) 0 8) (hm : (F 13).toInt = m) (lt : m < 6) (KX : (G 13).toInt = m + 1) (KS : ∀ i : Nat, i < 167 → i ≠ 13 → (i < 137 + 3 * m ∨ 137 + 3 * m + 3 ≤ i) → G i = F i) (KN0 : G (137 + 3 * m) = x0) (KN1 : G (137 + 3 * m + 1) = x1) (KN2 : G (137 + 3 * m + 2) = x2) (hg : g = (upd (upd (upd qhsf (m * 3 + 0) x0) (m * 3 + 1) x1) (m * 3 + 2) x2)) : HV G qrf qmf qwf qpf qhnf qhtf qhjf qhmf qhbf g qhcf := by
  obtain ⟨v_qrf, v_qmf, v_qwf, v_qpf, v_qhnf, v_qhtf, v_qhjf, v_qhmf, v_qhbf, v_qhsf, v_qhcf⟩ := hV
  obtain ⟨⟨i6, j6⟩, ⟨i7, j7⟩, ⟨i8, j8⟩, ⟨i9, j9⟩, ⟨i10, j10⟩, ⟨i11, j11⟩, ⟨i13, j13⟩, ⟨i14, j14⟩⟩ := hF
  obtain ⟨i12, j12⟩ := c12
  refine ⟨TV_keep (cap := 8) v_qrf (KS 6 (by first | decide | omega) (by first | decide | omega) (by first | decide | omega)) (by omega) (fun i q1 q2 => (KS i (by omega) (by omega) (by omega))), TV_keep (cap := 12) v_qmf (KS 8 (by first | decide | omega) (by first | decide | omega) (by first | decide | omega)) (by omega) (fun i q1 q2 => (KS i (by omega) (by omega) (by omega))), TV_keep (cap := 6) v_qwf (KS 10 (by first | decide | omega) (by first | decide | omega) (by first | decide | omega)) (by omega) (fun i q1 q2 => (KS i (by omega) (by omega) (by omega))), (fun k hk => by rw [(KS 12 (by first | decide | omega) (by first | decide | omega) (by first | decide | omega))] at hk; rw [(KS (126 + k) (by omega) (by omega) (by omega)), (KS 2 (by first | decide | omega) (by first | decide | omega) (by first | decide | omega))]; exact v_qpf k hk), (fun q j hj => by rw [(KS 15 (by first | decide | omega) (by first | decide | omega) (by first | decide | omega))] at q; rw [(KS j (by omega) (by omega) (by omega))]; exact v_qhnf q j hj), TV_keep (cap := 4) v_qhtf (KS 7 (by first | decide | omega) (by first | decide | omega) (by first | decide | omega)) (by omega) (fun i q1 q2 => (KS i (by omega) (by omega) (by omega))), TV_keep (cap := 8) v_qhjf (KS 9 (by first | decide | omega) (by first | decide | omega) (by first | decide | omega)) (by omega) (fun i q1 q2 => (KS i (by omega) (by omega) (by omega))), (fun k hk => by rw [(KS 11 (by first | decide | omega) (by first | decide | omega) (by first | decide | omega))] at hk; rw [(KS (114 + 3 * k) (by omega) (by omega) (by omega)), (KS (114 + 3 * k + 2) (by omega) (by omega) (by omega)), (KS (114 + 3 * k + 1) (by omega) (by omega) (by omega))]; exact v_qhmf k hk), (fun q j hj => by rw [(KS 134 (by first | decide | omega) (by first | decide | omega) (by first | decide | omega))] at q; rw [(KS (134 + j) (by omega) (by omega) (by omega))]; exact v_qhbf q j hj), ?_, TV_keep (cap := 6) v_qhcf (KS 14 (by first | decide | omega) (by first | decide | omega) (by first | decide | omega)) (by omega) (fun i q1 q2 => (KS i (by omega) (by omega) (by omega)))⟩
  refine TV_add (m := m) v_qhsf hm KX (fun i q1 q2 => KS i (by omega) (by omega) (by omega)) (fun i q => by rw [hg, upd_ne (by omega), upd_ne (by omega), upd_ne (by omega)]) (fun j hj => ?_)
  have hj' : j = 0 ∨ j = 1 ∨ j = 2 := by omega
  rcases hj' with rfl | rfl | rfl
  · rw [Nat.add_zero, Nat.add_zero, KN0, hg, upd_ne (by omega), upd_ne (by omega), show 3 * m = m * 3 + 0 by omega, upd_at]
  · rw [KN1, hg, upd_ne (by omega), show 3 * m + 1 = m * 3 + 1 by omega, upd_at]
  · rw [KN2, hg, show 3 * m + 2 = m * 3 + 2 by omega, upd_at]
theorem HV_scratch {F G g qrf qmf qwf qpf qhnf qhtf qhjf qhmf qhbf qhsf qhcf : Nat → Int32} {x0 x1 : Int32} {m : Nat} (hV : HV F qrf qmf qwf qpf qhnf qhtf qhjf qhmf qhbf qhsf qhcf) (hF : FIv F) (c12 : IV (F 12) 0 8) (hm : (F 14).toInt = m) (lt : m < 6) (KX : (G 14).toInt = m + 1) (KS : ∀ i : Nat, i < 167 → i ≠ 14 → (i < 155 + 2 * m ∨ 155 + 2 * m + 2 ≤ i) → G i = F i) (KN0 : G (155 + 2 * m) = x0) (KN1 : G (155 + 2 * m + 1) = x1) (hg : g = (upd (upd qhcf (m * 2 + 0) x0) (m * 2 + 1) x1)) : HV G qrf qmf qwf qpf qhnf qhtf qhjf qhmf qhbf qhsf g := by
  obtain ⟨v_qrf, v_qmf, v_qwf, v_qpf, v_qhnf, v_qhtf, v_qhjf, v_qhmf, v_qhbf, v_qhsf, v_qhcf⟩ := hV
  obtain ⟨⟨i6, j6⟩, ⟨i7, j7⟩, ⟨i8, j8⟩, ⟨i9, j9⟩, ⟨i10, j10⟩, ⟨i11, j11⟩, ⟨i13, j13⟩, ⟨i14, j14⟩⟩ := hF
  obtain ⟨i12, j12⟩ := c12
  refine ⟨TV_keep (cap := 8) v_qrf (KS 6 (by first | decide | omega) (by first | decide | omega) (by first | decide | omega)) (by omega) (fun i q1 q2 => (KS i (by omega) (by omega) (by omega))), TV_keep (cap := 12) v_qmf (KS 8 (by first | decide | omega) (by first | decide | omega) (by first | decide | omega)) (by omega) (fun i q1 q2 => (KS i (by omega) (by omega) (by omega))), TV_keep (cap := 6) v_qwf (KS 10 (by first | decide | omega) (by first | decide | omega) (by first | decide | omega)) (by omega) (fun i q1 q2 => (KS i (by omega) (by omega) (by omega))), (fun k hk => by rw [(KS 12 (by first | decide | omega) (by first | decide | omega) (by first | decide | omega))] at hk; rw [(KS (126 + k) (by omega) (by omega) (by omega)), (KS 2 (by first | decide | omega) (by first | decide | omega) (by first | decide | omega))]; exact v_qpf k hk), (fun q j hj => by rw [(KS 15 (by first | decide | omega) (by first | decide | omega) (by first | decide | omega))] at q; rw [(KS j (by omega) (by omega) (by omega))]; exact v_qhnf q j hj), TV_keep (cap := 4) v_qhtf (KS 7 (by first | decide | omega) (by first | decide | omega) (by first | decide | omega)) (by omega) (fun i q1 q2 => (KS i (by omega) (by omega) (by omega))), TV_keep (cap := 8) v_qhjf (KS 9 (by first | decide | omega) (by first | decide | omega) (by first | decide | omega)) (by omega) (fun i q1 q2 => (KS i (by omega) (by omega) (by omega))), (fun k hk => by rw [(KS 11 (by first | decide | omega) (by first | decide | omega) (by first | decide | omega))] at hk; rw [(KS (114 + 3 * k) (by omega) (by omega) (by omega)), (KS (114 + 3 * k + 2) (by omega) (by omega) (by omega)), (KS (114 + 3 * k + 1) (by omega) (by omega) (by omega))]; exact v_qhmf k hk), (fun q j hj => by rw [(KS 134 (by first | decide | omega) (by first | decide | omega) (by first | decide | omega))] at q; rw [(KS (134 + j) (by omega) (by omega) (by omega))]; exact v_qhbf q j hj), TV_keep (cap := 6) v_qhsf (KS 13 (by first | decide | omega) (by first | decide | omega) (by first | decide | omega)) (by omega) (fun i q1 q2 => (KS i (by omega) (by omega) (by omega))), ?_⟩
  refine TV_add (m := m) v_qhcf hm KX (fun i q1 q2 => KS i (by omega) (by omega) (by omega)) (fun i q => by rw [hg, upd_ne (by omega), upd_ne (by omega)]) (fun j hj => ?_)
  have hj' : j = 0 ∨ j = 1 := by omega
  rcases hj' with rfl | rfl
  · rw [Nat.add_zero, Nat.add_zero, KN0, hg, upd_ne (by omega), show 2 * m = m * 2 + 0 by omega, upd_at]
  · rw [KN1, hg, show 2 * m + 1 = m * 2 + 1 by omega, upd_at]
theorem HV_man {F G g qrf qmf qwf qpf qhnf qhtf qhjf qhmf qhbf qhsf qhcf : Nat → Int32} {x0 x1 x2 y1 : Int32} {m : Nat} (hV : HV F qrf qmf qwf qpf qhnf qhtf qhjf qhmf qhbf qhsf qhcf) (hF : FIv F) (c12 : IV (F 12) 0 8) (hm : (F 11).toInt = m) (lt : m < 4) (KX : (G 11).toInt = m + 1) (KS : ∀ i : Nat, i < 167 → i ≠ 11 → (i < 114 + 3 * m ∨ 114 + 3 * m + 3 ≤ i) → G i = F i) (KN0 : G (114 + 3 * m) = x0) (KN1 : G (114 + 3 * m + 1) = x1) (KN2 : G (114 + 3 * m + 2) = x2) (hy : x0 = 3 → y1 = x1) (hg : g = (upd (upd (upd qhmf (m * 3 + 0) x0) (m * 3 + 1) y1) (m * 3 + 2) x2)) : HV G qrf qmf qwf qpf qhnf qhtf qhjf g qhbf qhsf qhcf := by
  obtain ⟨v_qrf, v_qmf, v_qwf, v_qpf, v_qhnf, v_qhtf, v_qhjf, v_qhmf, v_qhbf, v_qhsf, v_qhcf⟩ := hV
  obtain ⟨⟨i6, j6⟩, ⟨i7, j7⟩, ⟨i8, j8⟩, ⟨i9, j9⟩, ⟨i10, j10⟩, ⟨i11, j11⟩, ⟨i13, j13⟩, ⟨i14, j14⟩⟩ := hF
  obtain ⟨i12, j12⟩ := c12
  refine ⟨TV_keep (cap := 8) v_qrf (KS 6 (by first | decide | omega) (by first | decide | omega) (by first | decide | omega)) (by omega) (fun i q1 q2 => (KS i (by omega) (by omega) (by omega))), TV_keep (cap := 12) v_qmf (KS 8 (by first | decide | omega) (by first | decide | omega) (by first | decide | omega)) (by omega) (fun i q1 q2 => (KS i (by omega) (by omega) (by omega))), TV_keep (cap := 6) v_qwf (KS 10 (by first | decide | omega) (by first | decide | omega) (by first | decide | omega)) (by omega) (fun i q1 q2 => (KS i (by omega) (by omega) (by omega))), (fun k hk => by rw [(KS 12 (by first | decide | omega) (by first | decide | omega) (by first | decide | omega))] at hk; rw [(KS (126 + k) (by omega) (by omega) (by omega)), (KS 2 (by first | decide | omega) (by first | decide | omega) (by first | decide | omega))]; exact v_qpf k hk), (fun q j hj => by rw [(KS 15 (by first | decide | omega) (by first | decide | omega) (by first | decide | omega))] at q; rw [(KS j (by omega) (by omega) (by omega))]; exact v_qhnf q j hj), TV_keep (cap := 4) v_qhtf (KS 7 (by first | decide | omega) (by first | decide | omega) (by first | decide | omega)) (by omega) (fun i q1 q2 => (KS i (by omega) (by omega) (by omega))), TV_keep (cap := 8) v_qhjf (KS 9 (by first | decide | omega) (by first | decide | omega) (by first | decide | omega)) (by omega) (fun i q1 q2 => (KS i (by omega) (by omega) (by omega))), ?_, (fun q j hj => by rw [(KS 134 (by first | decide | omega) (by first | decide | omega) (by first | decide | omega))] at q; rw [(KS (134 + j) (by omega) (by omega) (by omega))]; exact v_qhbf q j hj), TV_keep (cap := 6) v_qhsf (KS 13 (by first | decide | omega) (by first | decide | omega) (by first | decide | omega)) (by omega) (fun i q1 q2 => (KS i (by omega) (by omega) (by omega))), TV_keep (cap := 6) v_qhcf (KS 14 (by first | decide | omega) (by first | decide | omega) (by first | decide | omega)) (by omega) (fun i q1 q2 => (KS i (by omega) (by omega) (by omega)))⟩
  intro k hk
  by_cases q : k = m
  · subst q
    rw [KN0, KN1, KN2, hg]
    refine ⟨?_, ?_, fun z => ?_⟩
    · rw [upd_ne (by omega), upd_ne (by omega), show 3 * k = k * 3 + 0 by omega, upd_at]
    · rw [show 3 * k + 2 = k * 3 + 2 by omega, upd_at]
    · rw [upd_ne (by omega), show 3 * k + 1 = k * 3 + 1 by omega, upd_at]; exact hy z
  · rw [KS (114 + 3 * k) (by omega) (by omega) (by omega), KS (114 + 3 * k + 2) (by omega) (by omega) (by omega), KS (114 + 3 * k + 1) (by omega) (by omega) (by omega), hg, upd_ne (by omega), upd_ne (by omega), upd_ne (by omega), upd_ne (by omega), upd_ne (by omega), upd_ne (by omega), upd_ne (by omega), upd_ne (by omega), upd_ne (by omega)]
    exact v_qhmf k (by omega)
theorem upd3_0 {f : Nat → Int32} {x y z : Int32} : upd (upd (upd f ((0 : Int).toNat * 3 + 0) x) ((0 : Int).toNat * 3 + 1) y) ((0 : Int).toNat * 3 + 2) z 0 = x := by
  rw [show (0 : Int).toNat = 0 from rfl, upd_ne (by omega), upd_ne (by omega)]
  exact upd_at
theorem upd3_1 {f : Nat → Int32} {x y z : Int32} : upd (upd (upd f ((0 : Int).toNat * 3 + 0) x) ((0 : Int).toNat * 3 + 1) y) ((0 : Int).toNat * 3 + 2) z 1 = y := by
  rw [show (0 : Int).toNat = 0 from rfl, upd_ne (by omega)]
  exact upd_at
theorem upd3_2 {f : Nat → Int32} {x y z : Int32} : upd (upd (upd f ((0 : Int).toNat * 3 + 0) x) ((0 : Int).toNat * 3 + 1) y) ((0 : Int).toNat * 3 + 2) z 2 = z := by
  rw [show (0 : Int).toNat = 0 from rfl]
  exact upd_at
theorem HV_boys {F G g qrf qmf qwf qpf qhnf qhtf qhjf qhmf qhbf qhsf qhcf : Nat → Int32}  (hV : HV F qrf qmf qwf qpf qhnf qhtf qhjf qhmf qhbf qhsf qhcf) (hF : FIv F) (c12 : IV (F 12) 0 8) (KS : ∀ i : Nat, i < 167 → (i < 134 ∨ 136 < i) → G i = F i) (k0 : g 0 = G 134) (k1 : g 1 = G 135) (k2 : g 2 = G 136) : HV G qrf qmf qwf qpf qhnf qhtf qhjf qhmf g qhsf qhcf := by
  obtain ⟨v_qrf, v_qmf, v_qwf, v_qpf, v_qhnf, v_qhtf, v_qhjf, v_qhmf, v_qhbf, v_qhsf, v_qhcf⟩ := hV
  obtain ⟨⟨i6, j6⟩, ⟨i7, j7⟩, ⟨i8, j8⟩, ⟨i9, j9⟩, ⟨i10, j10⟩, ⟨i11, j11⟩, ⟨i13, j13⟩, ⟨i14, j14⟩⟩ := hF
  obtain ⟨i12, j12⟩ := c12
  exact ⟨TV_keep (cap := 8) v_qrf (KS 6 (by first | decide | omega) (by first | decide | omega)) (by omega) (fun i q1 q2 => (KS i (by omega) (by omega))), TV_keep (cap := 12) v_qmf (KS 8 (by first | decide | omega) (by first | decide | omega)) (by omega) (fun i q1 q2 => (KS i (by omega) (by omega))), TV_keep (cap := 6) v_qwf (KS 10 (by first | decide | omega) (by first | decide | omega)) (by omega) (fun i q1 q2 => (KS i (by omega) (by omega))), (fun k hk => by rw [(KS 12 (by first | decide | omega) (by first | decide | omega))] at hk; rw [(KS (126 + k) (by omega) (by omega)), (KS 2 (by first | decide | omega) (by first | decide | omega))]; exact v_qpf k hk), (fun q j hj => by rw [(KS 15 (by first | decide | omega) (by first | decide | omega))] at q; rw [(KS j (by omega) (by omega))]; exact v_qhnf q j hj), TV_keep (cap := 4) v_qhtf (KS 7 (by first | decide | omega) (by first | decide | omega)) (by omega) (fun i q1 q2 => (KS i (by omega) (by omega))), TV_keep (cap := 8) v_qhjf (KS 9 (by first | decide | omega) (by first | decide | omega)) (by omega) (fun i q1 q2 => (KS i (by omega) (by omega))), (fun k hk => by rw [(KS 11 (by first | decide | omega) (by first | decide | omega))] at hk; rw [(KS (114 + 3 * k) (by omega) (by omega)), (KS (114 + 3 * k + 2) (by omega) (by omega)), (KS (114 + 3 * k + 1) (by omega) (by omega))]; exact v_qhmf k hk), (fun _ j hj => by rcases (show j = 0 ∨ j = 1 ∨ j = 2 by omega) with rfl | rfl | rfl; exact k0; exact k1; exact k2), TV_keep (cap := 6) v_qhsf (KS 13 (by first | decide | omega) (by first | decide | omega)) (by omega) (fun i q1 q2 => (KS i (by omega) (by omega))), TV_keep (cap := 6) v_qhcf (KS 14 (by first | decide | omega) (by first | decide | omega)) (by omega) (fun i q1 q2 => (KS i (by omega) (by omega)))⟩
theorem HV_shows {F G g qrf qmf qwf qpf qhnf qhtf qhjf qhmf qhbf qhsf qhcf : Nat → Int32}  (hV : HV F qrf qmf qwf qpf qhnf qhtf qhjf qhmf qhbf qhsf qhcf) (hF : FIv F) (c12 : IV (F 12) 0 8) (KS : ∀ i : Nat, i < 167 → i ≠ 12 → (i < 126 ∨ 133 < i) → G i = F i) (k0 : ∀ k : Nat, (k : Int) < (G 12).toInt → g (2 * k) = G (126 + k) ∧ g (2 * k + 1) = G 2) : HV G qrf qmf qwf g qhnf qhtf qhjf qhmf qhbf qhsf qhcf := by
  obtain ⟨v_qrf, v_qmf, v_qwf, v_qpf, v_qhnf, v_qhtf, v_qhjf, v_qhmf, v_qhbf, v_qhsf, v_qhcf⟩ := hV
  obtain ⟨⟨i6, j6⟩, ⟨i7, j7⟩, ⟨i8, j8⟩, ⟨i9, j9⟩, ⟨i10, j10⟩, ⟨i11, j11⟩, ⟨i13, j13⟩, ⟨i14, j14⟩⟩ := hF
  obtain ⟨i12, j12⟩ := c12
  exact ⟨TV_keep (cap := 8) v_qrf (KS 6 (by first | decide | omega) (by first | decide | omega) (by first | decide | omega)) (by omega) (fun i q1 q2 => (KS i (by omega) (by omega) (by omega))), TV_keep (cap := 12) v_qmf (KS 8 (by first | decide | omega) (by first | decide | omega) (by first | decide | omega)) (by omega) (fun i q1 q2 => (KS i (by omega) (by omega) (by omega))), TV_keep (cap := 6) v_qwf (KS 10 (by first | decide | omega) (by first | decide | omega) (by first | decide | omega)) (by omega) (fun i q1 q2 => (KS i (by omega) (by omega) (by omega))), k0, (fun q j hj => by rw [(KS 15 (by first | decide | omega) (by first | decide | omega) (by first | decide | omega))] at q; rw [(KS j (by omega) (by omega) (by omega))]; exact v_qhnf q j hj), TV_keep (cap := 4) v_qhtf (KS 7 (by first | decide | omega) (by first | decide | omega) (by first | decide | omega)) (by omega) (fun i q1 q2 => (KS i (by omega) (by omega) (by omega))), TV_keep (cap := 8) v_qhjf (KS 9 (by first | decide | omega) (by first | decide | omega) (by first | decide | omega)) (by omega) (fun i q1 q2 => (KS i (by omega) (by omega) (by omega))), (fun k hk => by rw [(KS 11 (by first | decide | omega) (by first | decide | omega) (by first | decide | omega))] at hk; rw [(KS (114 + 3 * k) (by omega) (by omega) (by omega)), (KS (114 + 3 * k + 2) (by omega) (by omega) (by omega)), (KS (114 + 3 * k + 1) (by omega) (by omega) (by omega))]; exact v_qhmf k hk), (fun q j hj => by rw [(KS 134 (by first | decide | omega) (by first | decide | omega) (by first | decide | omega))] at q; rw [(KS (134 + j) (by omega) (by omega) (by omega))]; exact v_qhbf q j hj), TV_keep (cap := 6) v_qhsf (KS 13 (by first | decide | omega) (by first | decide | omega) (by first | decide | omega)) (by omega) (fun i q1 q2 => (KS i (by omega) (by omega) (by omega))), TV_keep (cap := 6) v_qhcf (KS 14 (by first | decide | omega) (by first | decide | omega) (by first | decide | omega)) (by omega) (fun i q1 q2 => (KS i (by omega) (by omega) (by omega)))⟩

set_option maxRecDepth 100000
set_option maxHeartbeats 4000000
theorem pk1 {r : Int32} {A B : Prop} (h : (r = 0 ∧ A) ∨ (¬ r = 0 ∧ B)) (x : r = 1) : B := by
  rcases h with ⟨q, -⟩ | ⟨-, h⟩
  · rw [x] at q; exact absurd q one0
  · exact h
theorem pk2 {r : Int32} {A B : Prop} (h : (r ≠ 0 ∧ A) ∨ (r = 0 ∧ B)) (x : r = 1) : A := by
  rcases h with ⟨-, h⟩ | ⟨q, -⟩
  · exact h
  · rw [x] at q; exact absurd q one0
theorem pf1 {r : Int32} {A B : Prop} (h : (r = 0 ∧ A) ∨ (¬ r = 0 ∧ B)) (x : r = 0) : A := by
  rcases h with ⟨-, h⟩ | ⟨q, -⟩
  · exact h
  · exact absurd x q
theorem pf2 {r : Int32} {A B : Prop} (h : (r ≠ 0 ∧ A) ∨ (r = 0 ∧ B)) (x : r = 0) : B := by
  rcases h with ⟨q, -⟩ | ⟨-, h⟩
  · exact absurd x q
  · exact h
theorem enF_hi {F G : Nat → Int32} {b : Nat} (h : ∀ i : Nat, 167 ≤ i → G i = F i) (hb : 167 ≤ b) (l : Nat) : enF G b l = enF F b l := enF_congr l (fun j _ => h _ (by omega))
theorem NRel_hi {F G : Nat → Int32} {nmf : Nat → Int64} {ndf : Nat → Int32} {ndn : Int32} (hr : NRel F nmf ndf ndn) (h : ∀ i : Nat, 167 ≤ i → G i = F i) : NRel G nmf ndf ndn := by
  obtain ⟨d1, d2, d3, d4⟩ := hr
  refine ⟨d1, fun i hi => ?_, fun j hj hp => d3 j hj (by rw [h _ (by omega)] at hp; exact hp), d4⟩
  obtain ⟨g1, l, g2, g3, g4, g5, g6⟩ := d2 i hi
  exact ⟨g1, l, by rw [h _ (by omega)]; exact g2, g3, g4, fun k hk => by rw [h _ (by omega)]; exact g5 k hk, by rw [g6, enF_hi h (by omega)]⟩
theorem HRel_reel {F T : Nat → Int32} {n a ndn ndk qrn qrk qmn qwn qpn qhnn qhtn qhjn qhmn qhbn qhsn qhcn x y z : Int32} {nmf nmg : Nat → Int64} {ndf ndg qrf qrg qmf qwf : Nat → Int32} (hH : HRel F ndn nmf ndf qrn qrf qmn qmf qwn qwf qpn qhnn qhtn qhjn qhmn qhbn qhsn qhcn) (h15 : F 15 ≠ 0) (h6 : (F 6).toInt < 8) (hN : NRel (wrN F T n a (F 6).toInt.toNat) nmg ndg ndk) (hk : ndk = ndn + 1) (hg : qrg = (upd (upd (upd qrf (qrn.toInt.toNat * 3 + 0) x) (qrn.toInt.toNat * 3 + 1) y) (qrn.toInt.toNat * 3 + 2) z)) (hr : qrk = qrn + 1) : HRel (upd (upd (upd (upd (wrN F T n a (F 6).toInt.toNat) (16 + 3 * (F 6).toInt.toNat) x) (16 + 3 * (F 6).toInt.toNat + 1) y) (16 + 3 * (F 6).toInt.toNat + 2) z) 6 (F 6 + 1)) ndk nmg ndg qrk qrg qmn qmf qwn qwf qpn qhnn qhtn qhjn qhmn qhbn qhsn qhcn := by
  refine exA14 hH ?_
  clear hH
  intro zc1 zc2 zc3 c12 cb cr cm cw cN cd f1 f2 f3 g1 g2
  refine exA1 zc1 ?_
  clear zc1
  intro a1 a2
  refine exA8 zc2 ?_
  clear zc2
  intro b1 b2 b3 b4 b5 b6 b7 b8 b9
  refine exA7 zc3 ?_
  clear zc3
  intro i6 i7 i8 i9 i10 i11 i13 i14
  have e6 := inc1 (u := F 6) (z := F 6 + 1) (a := 0) (b := 900) ⟨by omega, by omega⟩ (by omega) (by omega) rfl
  have en := inc1 (u := ndn) (z := ndn + 1) (a := 0) (b := 900) ⟨by have := cN.1; omega, by have := cN.1; omega⟩ (by omega) (by omega) rfl
  have K : ∀ i : Nat, i < 167 → i ≠ 6 → (i < 16 ∨ 39 < i) → upd (upd (upd (upd (wrN F T n a (F 6).toInt.toNat) (16 + 3 * (F 6).toInt.toNat) x) (16 + 3 * (F 6).toInt.toNat + 1) y) (16 + 3 * (F 6).toInt.toNat + 2) z) 6 (F 6 + 1) i = F i := by
    intro i h1 h2 h3
    rw [upd_ne h2, upd_ne (by omega), upd_ne (by omega), upd_ne (by omega), wrN_lt h1]
  have K6 : upd (upd (upd (upd (wrN F T n a (F 6).toInt.toNat) (16 + 3 * (F 6).toInt.toNat) x) (16 + 3 * (F 6).toInt.toNat + 1) y) (16 + 3 * (F 6).toInt.toNat + 2) z) 6 (F 6 + 1) 6 = F 6 + 1 := upd_at
  have KR : ∀ k : Nat, (k : Int) < (F 6).toInt → upd (upd (upd (upd (wrN F T n a (F 6).toInt.toNat) (16 + 3 * (F 6).toInt.toNat) x) (16 + 3 * (F 6).toInt.toNat + 1) y) (16 + 3 * (F 6).toInt.toNat + 2) z) 6 (F 6 + 1) (16 + 3 * k) = F (16 + 3 * k) := by
    intro k hk
    rw [upd_ne (by omega), upd_ne (by omega), upd_ne (by omega), upd_ne (by omega), wrN_lt (by omega)]
  have KS : upd (upd (upd (upd (wrN F T n a (F 6).toInt.toNat) (16 + 3 * (F 6).toInt.toNat) x) (16 + 3 * (F 6).toInt.toNat + 1) y) (16 + 3 * (F 6).toInt.toNat + 2) z) 6 (F 6 + 1) (16 + 3 * (F 6).toInt.toNat) = x := by
    rw [upd_ne (by omega), upd_ne (by omega), upd_ne (by omega), upd_at]
  have KH : ∀ i : Nat, 167 ≤ i → upd (upd (upd (upd (wrN F T n a (F 6).toInt.toNat) (16 + 3 * (F 6).toInt.toNat) x) (16 + 3 * (F 6).toInt.toNat + 1) y) (16 + 3 * (F 6).toInt.toNat + 2) z) 6 (F 6 + 1) i = wrN F T n a (F 6).toInt.toNat i := by
    intro i h1
    rw [upd_ne (by omega), upd_ne (by omega), upd_ne (by omega), upd_ne (by omega)]
  generalize hG : upd (upd (upd (upd (wrN F T n a (F 6).toInt.toNat) (16 + 3 * (F 6).toInt.toNat) x) (16 + 3 * (F 6).toInt.toNat + 1) y) (16 + 3 * (F 6).toInt.toNat + 2) z) 6 (F 6 + 1) = G at *
  have W : ∀ j : Nat, j < 16 → j ≠ (F 6).toInt.toNat → wrN F T n a (F 6).toInt.toNat (167 + j) = F (167 + j) := by
    intro j hj hj2
    unfold wrN
    rw [upd_ne (by omega), wrL_lt _ _ (by omega)]
  refine ⟨⟨by rw [K 15 (by first | decide | omega) (by first | decide | omega) (by first | decide | omega)]; exact a1, by rw [K 15 (by first | decide | omega) (by first | decide | omega) (by first | decide | omega)]; exact a2⟩, ⟨by rw [K6, hr, b1], by rw [K 7 (by first | decide | omega) (by first | decide | omega) (by first | decide | omega)]; exact b2, by rw [K 8 (by first | decide | omega) (by first | decide | omega) (by first | decide | omega)]; exact b3, by rw [K 9 (by first | decide | omega) (by first | decide | omega) (by first | decide | omega)]; exact b4, by rw [K 10 (by first | decide | omega) (by first | decide | omega) (by first | decide | omega)]; exact b5, by rw [K 11 (by first | decide | omega) (by first | decide | omega) (by first | decide | omega)]; exact b6, by rw [K 12 (by first | decide | omega) (by first | decide | omega) (by first | decide | omega)]; exact b7, by rw [K 13 (by first | decide | omega) (by first | decide | omega) (by first | decide | omega)]; exact b8, by rw [K 14 (by first | decide | omega) (by first | decide | omega) (by first | decide | omega)]; exact b9⟩, ⟨by rw [K6]; exact ⟨by omega, by omega⟩, by rw [K 7 (by first | decide | omega) (by first | decide | omega) (by first | decide | omega)]; exact i7, by rw [K 8 (by first | decide | omega) (by first | decide | omega) (by first | decide | omega)]; exact i8, by rw [K 9 (by first | decide | omega) (by first | decide | omega) (by first | decide | omega)]; exact i9, by rw [K 10 (by first | decide | omega) (by first | decide | omega) (by first | decide | omega)]; exact i10, by rw [K 11 (by first | decide | omega) (by first | decide | omega) (by first | decide | omega)]; exact i11, by rw [K 13 (by first | decide | omega) (by first | decide | omega) (by first | decide | omega)]; exact i13, by rw [K 14 (by first | decide | omega) (by first | decide | omega) (by first | decide | omega)]; exact i14⟩, by rw [K 12 (by first | decide | omega) (by first | decide | omega) (by first | decide | omega)]; exact c12, by rw [K 134 (by first | decide | omega) (by first | decide | omega) (by first | decide | omega)]; exact cb, ?_, ?_, ?_, ?_, ?_, ?_, ?_, ?_, ?_, ?_⟩
  · intro k hk2
    rw [K6] at hk2
    rw [hg, b1]
    by_cases q : (k : Int) < (F 6).toInt
    · rw [KR k q, upd_ne (by omega), upd_ne (by omega), upd_ne (by omega)]; exact cr k q
    · obtain rfl : k = (F 6).toInt.toNat := by omega
      rw [KS, upd_ne (by omega), upd_ne (by omega), show 3 * (F 6).toInt.toNat = (F 6).toInt.toNat * 3 + 0 by omega, upd_at]
  · intro k hk2
    rw [K 8 (by first | decide | omega) (by first | decide | omega) (by first | decide | omega)] at hk2
    have := cm k hk2
    rw [K _ (by omega) (by omega) (by omega), K _ (by omega) (by omega) (by omega)]; exact this
  · intro k hk2
    rw [K 10 (by first | decide | omega) (by first | decide | omega) (by first | decide | omega)] at hk2
    have := cw k hk2
    rw [K _ (by omega) (by omega) (by omega), K _ (by omega) (by omega) (by omega)]; exact this
  · exact NRel_hi hN KH
  · rw [K6, K 7 (by first | decide | omega) (by first | decide | omega) (by first | decide | omega), K 11 (by first | decide | omega) (by first | decide | omega) (by first | decide | omega), hk]; omega
  · intro j hj hj2
    rw [K6] at hj2
    rw [KH _ (by omega), W j (by omega) (by omega)]; exact f1 j hj (by omega)
  · intro j hj hj2
    rw [K 7 (by first | decide | omega) (by first | decide | omega) (by first | decide | omega)] at hj2
    rw [show 175 + j = 167 + (8 + j) by omega, KH _ (by omega), W (8 + j) (by omega) (by omega), show 167 + (8 + j) = 175 + j by omega]; exact f2 j hj hj2
  · intro j hj hj2
    rw [K 11 (by first | decide | omega) (by first | decide | omega) (by first | decide | omega)] at hj2
    rw [show 179 + j = 167 + (12 + j) by omega, KH _ (by omega), W (12 + j) (by omega) (by omega), show 167 + (12 + j) = 179 + j by omega]; exact f3 j hj hj2
  · intro q
    rw [K 15 (by first | decide | omega) (by first | decide | omega) (by first | decide | omega)] at q
    exact absurd q h15
  · rw [K 13 (by first | decide | omega) (by first | decide | omega) (by first | decide | omega), K 12 (by first | decide | omega) (by first | decide | omega) (by first | decide | omega)]; exact g2
theorem rm_inr {T : Nat → Int32} {n c x a b : Int32} (h : roomS T n c x a = .inr b) : x.toInt < c.toInt ∧ b = nx T n a := by
  unfold roomS at h
  by_cases q : c ≤ x
  · rw [if_pos q] at h; cases h
  · rw [if_neg q] at h
    rw [le_I] at q
    exact ⟨by omega, (Sum.inr.inj h).symm⟩
theorem qx_isReelLine {tp ndf qrf qmf qwf qpf qhnf qhtf qhjf qhmf qhbf qhsf qhcf ndg qrg qmg qwg qpg qhng qhtg qhjg qhmg qhbg qhsg qhcg F T : Nat → Int32} {nmf nmg : Nat → Int64} {le le2 : Int64} {fn fp n kd sta po va tk ta ndn qmd qtr qrn qmn qwn qpn qhnn qhtn qhjn qhmn qhbn qhsn qhcn fn2 fp2 kd2 sta2 po2 va2 tk2 ta2 ndk qrk qmk qwk qpk qmd2 qtr2 qhnk qhtk qhjk qhmk qhbk qhsk qhck r a : Int32} (hn : IV n 0 900) (ht : TpR tp T) (hH : HRel F ndn nmf ndf qrn qrf qmn qmf qwn qwf qpn qhnn qhtn qhjn qhmn qhbn qhsn qhcn) (hV : HV F qrf qmf qwf qpf qhnf qhtf qhjf qhmf qhbf qhsf qhcf) (h15 : F 15 ≠ 0) (hs : XS T n a kd sta po va le) (h : R_x_isReelLineX fn fp n kd sta po va le tk ta tp nmf ndn ndf qmd qtr qrn qrf qmn qmf qwn qwf qpn qpf qhnn qhnf qhtn qhtf qhjn qhjf qhmn qhmf qhbn qhbf qhsn qhsf qhcn qhcf fn2 fp2 kd2 sta2 po2 va2 le2 tk2 ta2 nmg ndg ndk qrg qmg qwg qpg qrk qmk qwk qpk qmd2 qtr2 qhng qhtg qhjg qhmg qhbg qhsg qhcg qhnk qhtk qhjk qhmk qhbk qhsk qhck r) : XF T n (bnd (opnS F T n (bcap 8 (F 6)) a) (reelS F T n)) fn fp r fn2 fp2 kd2 sta2 po2 va2 le2 (fun G => HRel G ndk nmg ndg qrk qrg qmk qmg qwk qwg qpk qhnk qhtk qhjk qhmk qhbk qhsk qhck ∧ HV G qrg qmg qwg qpg qhng qhtg qhjg qhmg qhbg qhsg qhcg) := by
  have hH0 := hH
  refine exA14 hH ?_
  clear hH
  intro zc4 zc5 zc6 c12 cb cr cm cw cN cd f1' f2' f3' g1' g2'
  refine exA1 zc4 ?_
  clear zc4
  intro a1 a2
  refine exA8 zc5 ?_
  clear zc5
  intro b1 b2 b3 b4 b5 b6 b7 b8 b9
  refine exA7 zc6 ?_
  clear zc6
  intro i6 i7 i8 i9 i10 i11 i13 i14
  have e8 : (8 : Int32).toInt = 8 := by decide
  have e4 : (4 : Int32).toInt = 4 := by decide
  rw [room_opn h15]
  unfold R_x_isReelLineX at h
  refine exE8 h ?_
  clear h
  intro f1 g1 k1 s1 p1 v1 l1' r1 hh1 h
  rw [b1] at hh1
  have m1 := qx_room0 hn ht hs hh1
  skip
  cases hc1 : roomS T n 8 (F 6) a with
  | inl e =>
    rw [hc1] at m1
    refine exA2 (XL_l m1) ?_
    intro x1 x2 x3
    first | replace h := pf1 h x1 | replace h := pf2 h x1
    have l1 := h.1
    have l2 := h.2.1
    have l37 := h.2.2.2.2.2.2.2.2.2.2.2.2.2.2.2.2.2.2.2.2.2.2.2.2.2.2.2.2.2.2.2.2.2.2.2.2
    simp only [reelS, aft_def, hc1, bnd]
    exact ⟨(by first | exact l37 | rw [l37, x1]), by rw [l1, x2], by rw [l2, x3]⟩
  | inr u1 =>
    rw [hc1] at m1
    refine exA3 (XL_r m1) ?_
    intro x1 yf1 yg1 xs1
    first | replace h := pk1 h x1 | replace h := pk2 h x1
    refine exE11 h ?_
    clear h
    intro f2 g2 k2 s2 p2 v2 l2' nm2 nd2 nk2 r2 hh2 h
    rw [b1] at hh2
    have m2 := qx_new hn ht cN (by have := (rm_inr hc1).1; omega) (Or.inl ⟨rfl, ⟨by omega, by have := (rm_inr hc1).1; omega⟩⟩) (by rw [slot0]; exact f1' _ (by have := (rm_inr hc1).1; omega) (by omega)) xs1 hh2
    rw [slot0] at m2
    cases hc2 : newS F T n (F 6).toInt.toNat u1 with
    | inl e =>
      rw [hc2] at m2
      refine exA2 (XN_l m2) ?_
      intro x1 x2 x3
      first | replace h := pf1 h x1 | replace h := pf2 h x1
      have l1 := h.1
      have l2 := h.2.1
      have l37 := h.2.2.2.2.2.2.2.2.2.2.2.2.2.2.2.2.2.2.2.2.2.2.2.2.2.2.2.2.2.2.2.2.2.2.2.2
      simp only [reelS, aft_def, hc1, hc2, bnd]
      exact ⟨(by first | exact l37 | rw [l37, x1]), by rw [l1, x2], by rw [l2, x3]⟩
    | inr u2 =>
      rw [hc2] at m2
      refine exA5 (XN_r m2) ?_
      intro x1 yf2 yg2 yN2 yk2 xs2
      first | replace h := pk1 h x1 | replace h := pk2 h x1
      refine exE8 h ?_
      clear h
      intro f3 g3 k3 s3 p3 v3 l3' r3 hh3 h
      have m3 := qx_label hn ht wok_frames xs2 hh3
      skip
      cases hc3 : labS T n "frames" u2.2 with
      | inl e =>
        rw [hc3] at m3
        refine exA2 (XL_l m3) ?_
        intro x1 x2 x3
        first | replace h := pf1 h x1 | replace h := pf2 h x1
        have l1 := h.1
        have l2 := h.2.1
        have l37 := h.2.2.2.2.2.2.2.2.2.2.2.2.2.2.2.2.2.2.2.2.2.2.2.2.2.2.2.2.2.2.2.2.2.2.2.2
        simp only [reelS, aft_def, hc1, hc2, hc3, bnd]
        exact ⟨(by first | exact l37 | rw [l37, x1]), by rw [l1, x2], by rw [l2, x3]⟩
      | inr u3 =>
        rw [hc3] at m3
        refine exA3 (XL_r m3) ?_
        intro x1 yf3 yg3 xs3
        first | replace h := pk1 h x1 | replace h := pk2 h x1
        refine exE10 h ?_
        clear h
        intro f4 g4 k4 s4 p4 v4 l4' tk4 ta4 r4 hh4 h
        have m4 := qx_whole hn ht xs3 hh4
        skip
        cases hc4 : numS T n 2 2000 u3 with
        | inl e =>
          rw [hc4] at m4
          refine exA2 (XV_l m4) ?_
          intro x1 x2 x3
          first | replace h := pf1 h x1 | replace h := pf2 h x1
          have l1 := h.1
          have l2 := h.2.1
          have l37 := h.2.2.2.2.2.2.2.2.2.2.2.2.2.2.2.2.2.2.2.2.2.2.2.2.2.2.2.2.2.2.2.2.2.2.2.2
          simp only [reelS, aft_def, hc1, hc2, hc3, hc4, bnd]
          exact ⟨(by first | exact l37 | rw [l37, x1]), by rw [l1, x2], by rw [l2, x3]⟩
        | inr u4 =>
          rw [hc4] at m4
          refine exA5 (XV_r m4) ?_
          intro x1 yf4 yg4 yt4 ya4 xs4
          first | replace h := pk1 h x1 | replace h := pk2 h x1
          refine exE8 h ?_
          clear h
          intro f5 g5 k5 s5 p5 v5 l5' r5 hh5 h
          have m5 := qx_label hn ht wok_first xs4 hh5
          skip
          cases hc5 : labS T n "first" u4.2 with
          | inl e =>
            rw [hc5] at m5
            refine exA2 (XL_l m5) ?_
            intro x1 x2 x3
            first | replace h := pf1 h x1 | replace h := pf2 h x1
            have l1 := h.1
            have l2 := h.2.1
            have l37 := h.2.2.2.2.2.2.2.2.2.2.2.2.2.2.2.2.2.2.2.2.2.2.2.2.2.2.2.2.2.2.2.2.2.2.2.2
            simp only [reelS, aft_def, hc1, hc2, hc3, hc4, hc5, bnd]
            exact ⟨(by first | exact l37 | rw [l37, x1]), by rw [l1, x2], by rw [l2, x3]⟩
          | inr u5 =>
            rw [hc5] at m5
            refine exA3 (XL_r m5) ?_
            intro x1 yf5 yg5 xs5
            first | replace h := pk1 h x1 | replace h := pk2 h x1
            refine exE1 h ?_
            clear h
            intro z81 hz h
            refine exE10 h ?_
            clear h
            intro f6 g6 k6 s6 p6 v6 l6' tk6 ta6 r6 hh6 h
            rw [hz, yt4] at hh6
            have m6 := qx_whole hn ht xs5 hh6
            skip
            cases hc6 : numS T n 0 (u4.1 - 1) u5 with
            | inl e =>
              rw [hc6] at m6
              refine exA2 (XV_l m6) ?_
              intro x1 x2 x3
              first | replace h := pf1 h x1 | replace h := pf2 h x1
              have l1 := h.1
              have l2 := h.2.1
              have l37 := h.2.2.2.2.2.2.2.2.2.2.2.2.2.2.2.2.2.2.2.2.2.2.2.2.2.2.2.2.2.2.2.2.2.2.2.2
              simp only [reelS, aft_def, hc1, hc2, hc3, hc4, hc5, hc6, bnd]
              exact ⟨(by first | exact l37 | rw [l37, x1]), by rw [l1, x2], by rw [l2, x3]⟩
            | inr u6 =>
              rw [hc6] at m6
              refine exA5 (XV_r m6) ?_
              intro x1 yf6 yg6 yt6 ya6 xs6
              first | replace h := pk1 h x1 | replace h := pk2 h x1
              refine exE8 h ?_
              clear h
              intro f7 g7 k7 s7 p7 v7 l7' r7 hh7 h
              have m7 := qx_label hn ht wok_whole xs6 hh7
              skip
              cases hc7 : labS T n "whole" u6.2 with
              | inl e =>
                rw [hc7] at m7
                refine exA2 (XL_l m7) ?_
                intro x1 x2 x3
                first | replace h := pf1 h x1 | replace h := pf2 h x1
                have l1 := h.1
                have l2 := h.2.1
                have l37 := h.2.2.2.2.2.2.2.2.2.2.2.2.2.2.2.2.2.2.2.2.2.2.2.2.2.2.2.2.2.2.2.2.2.2.2.2
                simp only [reelS, aft_def, hc1, hc2, hc3, hc4, hc5, hc6, hc7, bnd]
                exact ⟨(by first | exact l37 | rw [l37, x1]), by rw [l1, x2], by rw [l2, x3]⟩
              | inr u7 =>
                rw [hc7] at m7
                refine exA3 (XL_r m7) ?_
                intro x1 yf7 yg7 xs7
                first | replace h := pk1 h x1 | replace h := pk2 h x1
                refine exE10 h ?_
                clear h
                intro f8 g8 k8 s8 p8 v8 l8' tk8 ta8 r8 hh8 h
                rw [yt4] at hh8
                have m8 := qx_whole hn ht xs7 hh8
                skip
                cases hc8 : numS T n u4.1 2000 u7 with
                | inl e =>
                  rw [hc8] at m8
                  refine exA2 (XV_l m8) ?_
                  intro x1 x2 x3
                  first | replace h := pf1 h x1 | replace h := pf2 h x1
                  have l1 := h.1
                  have l2 := h.2.1
                  have l37 := h.2.2.2.2.2.2.2.2.2.2.2.2.2.2.2.2.2.2.2.2.2.2.2.2.2.2.2.2.2.2.2.2.2.2.2.2
                  simp only [reelS, aft_def, hc1, hc2, hc3, hc4, hc5, hc6, hc7, hc8, bnd]
                  exact ⟨(by first | exact l37 | rw [l37, x1]), by rw [l1, x2], by rw [l2, x3]⟩
                | inr u8 =>
                  rw [hc8] at m8
                  refine exA5 (XV_r m8) ?_
                  intro x1 yf8 yg8 yt8 ya8 xs8
                  first | replace h := pk1 h x1 | replace h := pk2 h x1
                  refine exE2 h ?_
                  clear h
                  intro gg kk hadd h
                  refine exA36 h ?_
                  intro l1 l2 l3 l4 l5 l6 l7 l8 l9 l10 l11 l12 l13 l14 l15 l16 l17 l18 l19 l20 l21 l22 l23 l24 l25 l26 l27 l28 l29 l30 l31 l32 l33 l34 l35 l36 l37
                  obtain ⟨o1, o2⟩ := qt_add8_3 (by rw [b1]; exact ⟨by omega, by have := (rm_inr hc1).1; omega⟩) hadd
                  obtain ⟨w1, w2⟩ := new_inr hc2
                  simp only [reelS, aft_def, hc1, hc2, hc3, hc4, hc5, hc6, hc7, hc8, bnd]
                  subst l3 l4 l5 l6 l7
                  refine ⟨l37, by rw [l1, yf8, yf7, yf6, yf5, yf4, yf3, yf2, yf1], by rw [l2, yg8, yg7, yg6, yg5, yg4, yg3, yg2, yg1], xs8, ?_⟩
                  skip
                  rw [w1] at yN2
                  rw [yt4, yt6, yt8] at o1
                  rw [w1]
                  have hF := HRel_reel (x := u4.1) (y := u6.1) (z := u8.1) hH0 h15 (by have := (rm_inr hc1).1; omega) yN2 yk2 o1 o2
                  have hW := HV_reel (g := gg) (G := (upd (upd (upd (upd (wrN F T n u1 (F 6).toInt.toNat) (16 + 3 * (F 6).toInt.toNat) u4.1) (16 + 3 * (F 6).toInt.toNat + 1) u6.1) (16 + 3 * (F 6).toInt.toNat + 2) u8.1) 6 (F 6 + 1))) (m := (F 6).toInt.toNat) hV ⟨i6, i7, i8, i9, i10, i11, i13, i14⟩ c12 (by omega) (by have := (rm_inr hc1).1; omega) (by rw [upd_at, inc1 (u := F 6) (z := F 6 + 1) (a := 0) (b := 900) ⟨by omega, by omega⟩ (by omega) (by omega) rfl]; omega) (fun i q1 q2 q3 => by rw [upd_ne q2, upd_ne (by omega), upd_ne (by omega), upd_ne (by omega), wrN_lt q1]) (by rw [upd_ne (by omega), upd_ne (by omega), upd_ne (by omega), upd_at]) (by rw [upd_ne (by omega), upd_ne (by omega), upd_at]) (by rw [upd_ne (by omega), upd_at]) (by rw [o1, b1])
                  rw [l10, l11, l12, l13, l14, l15, l16, l17, l18, l19, l20, l23, l24, l25, l26, l27, l28, l29, l30, l31, l32, l33, l34, l35, l36]
                  exact ⟨hF, hW⟩

theorem findG_at {F T : Nat → Int32} {n a : Int32} : ∀ g j : Nat, j + g = 16 → ¬ findG F T n a g j < 0 → ∃ i : Nat, i < 16 ∧ findG F T n a g j = nI i ∧ NmAt F T n a i := by
  intro g
  induction g with
  | zero => intro j _ h; exact absurd (by rw [findG]; decide) h
  | succ g ih =>
    intro j hj h
    rw [findG] at h ⊢
    by_cases q : NmAt F T n a j
    · rw [if_pos q]; exact ⟨j, by omega, rfl, q⟩
    · rw [if_neg q] at h ⊢; exact ih (j + 1) (by omega) h
theorem reelP_lt {F T : Nat → Int32} {n a : Int32} {v : Int32 × Int32} (hf : ∀ j : Nat, j < 8 → (F 6).toInt ≤ j → ¬ 0 < (F (167 + j)).toInt) (h : reelP F T n a = .inr v) : v.1.toInt < (F 6).toInt := by
  have iv := (reelP_inr h).1
  unfold reelP oldS at h
  by_cases ok : NameOk T n a
  · rw [if_pos ok] at h
    by_cases q1 : findS F T n a < 0
    · rw [if_pos q1, bnd_l] at h; cases h
    · rw [if_neg q1] at h
      by_cases q2 : (7 : Int32) < findS F T n a
      · rw [if_pos q2, bnd_l] at h; cases h
      · rw [if_neg q2, bnd_r] at h
        have e := Sum.inr.inj h
        subst e
        obtain ⟨i, i1, i2, i3⟩ := findG_at 16 0 (by first | decide | omega) q1
        have i2 : findS F T n a = nI i := i2
        rw [i2] at iv ⊢
        have e1 : (nI i - 0).toInt = i := by rw [subI (by rw [nIt (by omega), zI]; omega) (by rw [nIt (by omega), zI]; omega), nIt (by omega), zI]; omega
        show (nI i - 0).toInt < (F 6).toInt
        have iv : IV (nI i - 0) 0 7 := iv
        rw [IV, e1] at iv
        rw [e1]
        have := i3.1
        by_cases q : (F 6).toInt ≤ i
        · exact absurd this (hf i (by omega) q)
        · omega
  · rw [if_neg ok, bnd_l] at h; cases h
theorem last_of {F qrf : Nat → Int32} {p r : Int32} (hp : IV p 0 7) (hl : p.toInt < (F 6).toInt) (cr : ∀ k : Nat, (k : Int) < (F 6).toInt → qrf (3 * k) = F (16 + 3 * k)) (h : R_x_lastFrameX p qrf r) : r = F (16 + 3 * p.toInt.toNat) - 1 := by
  obtain ⟨r1, hr1, z, hz, h⟩ := h
  have e8 : (8 : Int32).toInt = 8 := by decide
  have e3 : (3 : Int32).toInt = 3 := by decide
  have q := tbAt_in (R := 8) (V := 3) (row := p) (col := 0) (f := qrf) (by decide) (by decide) (by rw [e8]; omega) (by decide)
  rw [e3, row0] at q
  have z0 : p.toInt.toNat * (3 : Int).toNat + (0 : Int).toNat = 3 * p.toInt.toNat := by show p.toInt.toNat * 3 + 0 = 3 * p.toInt.toNat; omega
  rw [z0, cr _ (by omega)] at q
  rw [h, hz, hr1, q]
theorem HG {F G : Nat → Int32} {ndn qrn qmn qwn qpn qhnn qhtn qhjn qhmn qhbn qhsn qhcn qmk qwk qpk qhjk qhbk qhsk qhck : Int32} {nmf : Nat → Int64} {ndf qrf qmf qwf qmg qwg : Nat → Int32} (hH : HRel F ndn nmf ndf qrn qrf qmn qmf qwn qwf qpn qhnn qhtn qhjn qhmn qhbn qhsn qhcn) (h15 : F 15 ≠ 0) (k15 : G 15 = F 15) (k6 : G 6 = F 6) (k7 : G 7 = F 7) (k11 : G 11 = F 11) (khi : ∀ i : Nat, 167 ≤ i → G i = F i) (kre : ∀ k : Nat, (k : Int) < (F 6).toInt → G (16 + 3 * k) = F (16 + 3 * k))
    (i8 : IV (G 8) 0 12) (i9 : IV (G 9) 0 8) (i10 : IV (G 10) 0 6) (i12 : IV (G 12) 0 8) (i13 : IV (G 13) 0 6) (i14 : IV (G 14) 0 6) (c8 : qmk = G 8) (c9 : qhjk = G 9) (c10 : qwk = G 10) (c12 : qpk = G 12) (c13 : qhsk = G 13) (c14 : qhck = G 14) (cb : (qhbk = 0 ∧ G 134 = 0) ∨ (qhbk = 1 ∧ 0 < (G 134).toInt))
    (cm : ∀ k : Nat, (k : Int) < (G 8).toInt → qmg (3 * k) = G (44 + 3 * k) ∧ qmg (3 * k + 2) = G (44 + 3 * k + 2) ∧ 0 ≤ (qmg (3 * k + 1)).toInt) (cw : ∀ k : Nat, (k : Int) < (G 10).toInt → qwg (3 * k) = G (96 + 3 * k) ∧ qwg (3 * k + 1) = G (96 + 3 * k + 1)) (g2 : 0 < (G 13).toInt → 0 < (G 12).toInt) : HRel G ndn nmf ndf qrn qrf qmk qmg qwk qwg qpk qhnn qhtn qhjk qhmn qhbk qhsk qhck := by
  refine exA14 hH ?_
  clear hH
  intro zc1 zc2 zc3 zc4 zc5 cr zc6 zc7 cN cd f1 f2 f3 zc8 zc9
  refine exA1 zc1 ?_
  clear zc1
  intro a1 a2
  refine exA8 zc2 ?_
  clear zc2
  intro b1 b2 b3 b4 b5 b6 b7 b8 b9
  refine exA7 zc3 ?_
  clear zc3
  intro j6 j7 j8 j9 j10 j11 j13 j14
  clear zc4
  clear zc5
  clear zc6
  clear zc7
  clear zc8
  clear zc9
  refine ⟨⟨by rw [k15]; exact a1, by rw [k15]; exact a2⟩, ⟨by rw [k6]; exact b1, by rw [k7]; exact b2, c8, c9, c10, by rw [k11]; exact b6, c12, c13, c14⟩, ⟨by rw [k6]; exact j6, by rw [k7]; exact j7, i8, i9, i10, by rw [k11]; exact j11, i13, i14⟩, i12, cb, ?_, cm, cw, NRel_hi cN khi, by rw [k6, k7, k11]; exact cd, ?_, ?_, ?_, fun q => absurd (k15.symm.trans q) h15, g2⟩
  · intro k hk
    rw [k6] at hk
    rw [kre k hk]; exact cr k hk
  · intro j hj hj2
    rw [k6] at hj2
    rw [khi _ (by omega)]; exact f1 j hj hj2
  · intro j hj hj2
    rw [k7] at hj2
    rw [khi _ (by omega)]; exact f2 j hj hj2
  · intro j hj hj2
    rw [k11] at hj2
    rw [khi _ (by omega)]; exact f3 j hj hj2
theorem qx_isJoinLine {tp ndf qrf qmf qwf qpf qhnf qhtf qhjf qhmf qhbf qhsf qhcf ndg qrg qmg qwg qpg qhng qhtg qhjg qhmg qhbg qhsg qhcg F T : Nat → Int32} {nmf nmg : Nat → Int64} {le le2 : Int64} {fn fp n kd sta po va tk ta ndn qmd qtr qrn qmn qwn qpn qhnn qhtn qhjn qhmn qhbn qhsn qhcn fn2 fp2 kd2 sta2 po2 va2 tk2 ta2 ndk qrk qmk qwk qpk qmd2 qtr2 qhnk qhtk qhjk qhmk qhbk qhsk qhck r a : Int32} (hn : IV n 0 900) (ht : TpR tp T) (hH : HRel F ndn nmf ndf qrn qrf qmn qmf qwn qwf qpn qhnn qhtn qhjn qhmn qhbn qhsn qhcn) (hV : HV F qrf qmf qwf qpf qhnf qhtf qhjf qhmf qhbf qhsf qhcf) (h15 : F 15 ≠ 0) (hs : XS T n a kd sta po va le) (h : R_x_isJoinLineX fn fp n kd sta po va le tk ta tp nmf ndn ndf qmd qtr qrn qrf qmn qmf qwn qwf qpn qpf qhnn qhnf qhtn qhtf qhjn qhjf qhmn qhmf qhbn qhbf qhsn qhsf qhcn qhcf fn2 fp2 kd2 sta2 po2 va2 le2 tk2 ta2 nmg ndg ndk qrg qmg qwg qpg qrk qmk qwk qpk qmd2 qtr2 qhng qhtg qhjg qhmg qhbg qhsg qhcg qhnk qhtk qhjk qhmk qhbk qhsk qhck r) : XF T n (bnd (opnS F T n (bcap 8 (F 9)) a) (joinS F T n)) fn fp r fn2 fp2 kd2 sta2 po2 va2 le2 (fun G => HRel G ndk nmg ndg qrk qrg qmk qmg qwk qwg qpk qhnk qhtk qhjk qhmk qhbk qhsk qhck ∧ HV G qrg qmg qwg qpg qhng qhtg qhjg qhmg qhbg qhsg qhcg) := by
  have hH0 := hH
  refine exA14 hH ?_
  clear hH
  intro zc10 zc11 zc12 c12 cb cr cm cw cN cd f1' f2' f3' g1' g2'
  refine exA1 zc10 ?_
  clear zc10
  intro a1 a2
  refine exA8 zc11 ?_
  clear zc11
  intro b1 b2 b3 b4 b5 b6 b7 b8 b9
  refine exA7 zc12 ?_
  clear zc12
  intro i6 i7 i8 i9 i10 i11 i13 i14
  have e8 : (8 : Int32).toInt = 8 := by decide
  have e6 : (6 : Int32).toInt = 6 := by decide
  rw [room_opn h15]
  unfold R_x_isJoinLineX at h
  refine exE8 h ?_
  clear h
  intro f1 g1 k1 s1 p1 v1 l1' r1 hh1 h
  rw [b4] at hh1
  have m1 := qx_room3 hn ht hs hh1
  skip
  cases hc1 : roomS T n 8 (F 9) a with
  | inl e =>
    rw [hc1] at m1
    refine exA2 (XL_l m1) ?_
    intro x1 x2 x3
    first | replace h := pf1 h x1 | replace h := pf2 h x1
    have l1 := h.1
    have l2 := h.2.1
    have l37 := h.2.2.2.2.2.2.2.2.2.2.2.2.2.2.2.2.2.2.2.2.2.2.2.2.2.2.2.2.2.2.2.2.2.2.2.2
    simp only [joinS, aft_def, hc1, bnd]
    exact ⟨(by first | exact l37 | rw [l37, x1]), by rw [l1, x2], by rw [l2, x3]⟩
  | inr u1 =>
    rw [hc1] at m1
    refine exA3 (XL_r m1) ?_
    intro x1 yf1 yg1 xs1
    first | replace h := pk1 h x1 | replace h := pk2 h x1
    refine exE10 h ?_
    clear h
    intro f2 g2 k2 s2 p2 v2 l2' tk2 ta2 r2 hh2 h
    have m2 := qx_oldR hn ht cN xs1 hh2
    skip
    cases hc2 : reelP F T n u1 with
    | inl e =>
      rw [hc2] at m2
      refine exA2 (XV_l m2) ?_
      intro x1 x2 x3
      first | replace h := pf1 h x1 | replace h := pf2 h x1
      have l1 := h.1
      have l2 := h.2.1
      have l37 := h.2.2.2.2.2.2.2.2.2.2.2.2.2.2.2.2.2.2.2.2.2.2.2.2.2.2.2.2.2.2.2.2.2.2.2.2
      simp only [joinS, aft_def, hc1, hc2, bnd]
      exact ⟨(by first | exact l37 | rw [l37, x1]), by rw [l1, x2], by rw [l2, x3]⟩
    | inr u2 =>
      rw [hc2] at m2
      refine exA5 (XV_r m2) ?_
      intro x1 yf2 yg2 yt2 ya2 xs2
      first | replace h := pk1 h x1 | replace h := pk2 h x1
      refine exE1 h ?_
      clear h
      intro rl hl h
      refine exE10 h ?_
      clear h
      intro f3 g3 k3 s3 p3 v3 l3' tk3 ta3 r3 hh3 h
      rw [yt2] at hl
      have el := last_of (reelP_inr hc2).1 (reelP_lt f1' hc2) cr hl
      rw [el] at hh3
      have m3 := qx_whole hn ht xs2 hh3
      skip
      cases hc3 : numS T n 0 (F (16 + 3 * u2.1.toInt.toNat) - 1) u2.2 with
      | inl e =>
        rw [hc3] at m3
        refine exA2 (XV_l m3) ?_
        intro x1 x2 x3
        first | replace h := pf1 h x1 | replace h := pf2 h x1
        have l1 := h.1
        have l2 := h.2.1
        have l37 := h.2.2.2.2.2.2.2.2.2.2.2.2.2.2.2.2.2.2.2.2.2.2.2.2.2.2.2.2.2.2.2.2.2.2.2.2
        simp only [joinS, aft_def, hc1, hc2, hc3, bnd]
        exact ⟨(by first | exact l37 | rw [l37, x1]), by rw [l1, x2], by rw [l2, x3]⟩
      | inr u3 =>
        rw [hc3] at m3
        refine exA5 (XV_r m3) ?_
        intro x1 yf3 yg3 yt3 ya3 xs3
        first | replace h := pk1 h x1 | replace h := pk2 h x1
        refine exE8 h ?_
        clear h
        intro f4 g4 k4 s4 p4 v4 l4' r4 hh4 h
        have m4 := qx_label hn ht wok_lacks xs3 hh4
        skip
        cases hc4 : labS T n "lacks" u3.2 with
        | inl e =>
          rw [hc4] at m4
          refine exA2 (XL_l m4) ?_
          intro x1 x2 x3
          first | replace h := pf1 h x1 | replace h := pf2 h x1
          have l1 := h.1
          have l2 := h.2.1
          have l37 := h.2.2.2.2.2.2.2.2.2.2.2.2.2.2.2.2.2.2.2.2.2.2.2.2.2.2.2.2.2.2.2.2.2.2.2.2
          simp only [joinS, aft_def, hc1, hc2, hc3, hc4, bnd]
          exact ⟨(by first | exact l37 | rw [l37, x1]), by rw [l1, x2], by rw [l2, x3]⟩
        | inr u4 =>
          rw [hc4] at m4
          refine exA3 (XL_r m4) ?_
          intro x1 yf4 yg4 xs4
          first | replace h := pk1 h x1 | replace h := pk2 h x1
          refine exE10 h ?_
          clear h
          intro f5 g5 k5 s5 p5 v5 l5' tk5 ta5 r5 hh5 h
          have m5 := qx_whole hn ht xs4 hh5
          skip
          cases hc5 : numS T n 1 99 u4 with
          | inl e =>
            rw [hc5] at m5
            refine exA2 (XV_l m5) ?_
            intro x1 x2 x3
            first | replace h := pf1 h x1 | replace h := pf2 h x1
            have l1 := h.1
            have l2 := h.2.1
            have l37 := h.2.2.2.2.2.2.2.2.2.2.2.2.2.2.2.2.2.2.2.2.2.2.2.2.2.2.2.2.2.2.2.2.2.2.2.2
            simp only [joinS, aft_def, hc1, hc2, hc3, hc4, hc5, bnd]
            exact ⟨(by first | exact l37 | rw [l37, x1]), by rw [l1, x2], by rw [l2, x3]⟩
          | inr u5 =>
            rw [hc5] at m5
            refine exA5 (XV_r m5) ?_
            intro x1 yf5 yg5 yt5 ya5 xs5
            first | replace h := pk1 h x1 | replace h := pk2 h x1
            refine exE2 h ?_
            clear h
            intro gg kk hadd h
            refine exA36 h ?_
            intro l1 l2 l3 l4 l5 l6 l7 l8 l9 l10 l11 l12 l13 l14 l15 l16 l17 l18 l19 l20 l21 l22 l23 l24 l25 l26 l27 l28 l29 l30 l31 l32 l33 l34 l35 l36 l37
            obtain ⟨o1, o2⟩ := qt_add8_2 (by rw [b4]; exact ⟨by omega, by have := (rm_inr hc1).1; omega⟩) hadd
            simp only [joinS, aft_def, hc1, hc2, hc3, hc4, hc5, bnd]
            subst l3 l4 l5 l6 l7
            refine ⟨l37, by rw [l1, yf5, yf4, yf3, yf2, yf1], by rw [l2, yg5, yg4, yg3, yg2, yg1], xs5, ?_⟩
            skip
            have lt := (rm_inr hc1).1
            have en := inc1 (u := F 9) (z := F 9 + 1) (a := 0) (b := 900) ⟨by omega, by omega⟩ (by omega) (by omega) rfl
            have K : ∀ i : Nat, i ≠ 9 → (i < 80 ∨ 95 < i) → (upd (upd (upd F (80 + 2 * (F 9).toInt.toNat) u2.1) (80 + 2 * (F 9).toInt.toNat + 1) u5.1) 9 (F 9 + 1)) i = F i := by
              intro i q1 q2
              rw [upd_ne q1, upd_ne (by omega), upd_ne (by omega)]
            have KX : (upd (upd (upd F (80 + 2 * (F 9).toInt.toNat) u2.1) (80 + 2 * (F 9).toInt.toNat + 1) u5.1) 9 (F 9 + 1)) 9 = F 9 + 1 := upd_at
            have hW := HV_join (g := gg) (G := (upd (upd (upd F (80 + 2 * (F 9).toInt.toNat) u2.1) (80 + 2 * (F 9).toInt.toNat + 1) u5.1) 9 (F 9 + 1))) (m := (F 9).toInt.toNat) hV ⟨i6, i7, i8, i9, i10, i11, i13, i14⟩ c12 (by omega) (by have := (rm_inr hc1).1; omega) (by rw [upd_at, inc1 (u := F 9) (z := F 9 + 1) (a := 0) (b := 900) ⟨by omega, by omega⟩ (by omega) (by omega) rfl]; omega) (fun i q1 q2 q3 => by rw [upd_ne q2, upd_ne (by omega), upd_ne (by omega)]) (by rw [upd_ne (by omega), upd_ne (by omega), upd_at]) (by rw [upd_ne (by omega), upd_at]) (by rw [o1, b4, yt2, yt5])
            rw [l10, l11, l12, l13, l14, l15, l16, l17, l18, l19, l20, l23, l24, l25, l26, l27, l28, l29, l30, l31, l32, l33, l34, l35, l36]
            generalize (upd (upd (upd F (80 + 2 * (F 9).toInt.toNat) u2.1) (80 + 2 * (F 9).toInt.toNat + 1) u5.1) 9 (F 9 + 1)) = G at *
            dsimp only
            exact ⟨HG hH0 h15 (K 15 (by first | decide | omega) (by first | decide | omega)) (K 6 (by first | decide | omega) (by first | decide | omega)) (K 7 (by first | decide | omega) (by first | decide | omega)) (K 11 (by first | decide | omega) (by first | decide | omega)) (fun i q => K i (by omega) (by omega)) (fun j q => K _ (by omega) (by omega)) (by rw [K 8 (by first | decide | omega) (by first | decide | omega)]; exact i8) (by rw [KX]; exact ⟨by omega, by omega⟩) (by rw [K 10 (by first | decide | omega) (by first | decide | omega)]; exact i10) (by rw [K 12 (by first | decide | omega) (by first | decide | omega)]; exact c12) (by rw [K 13 (by first | decide | omega) (by first | decide | omega)]; exact i13) (by rw [K 14 (by first | decide | omega) (by first | decide | omega)]; exact i14) (by rw [K 8 (by first | decide | omega) (by first | decide | omega)]; exact b3) (by rw [KX, o2, b4]) (by rw [K 10 (by first | decide | omega) (by first | decide | omega)]; exact b5) (by rw [K 12 (by first | decide | omega) (by first | decide | omega)]; exact b7) (by rw [K 13 (by first | decide | omega) (by first | decide | omega)]; exact b8) (by rw [K 14 (by first | decide | omega) (by first | decide | omega)]; exact b9) (by rw [K 134 (by first | decide | omega) (by first | decide | omega)]; exact cb) (fun j q => by rw [K 8 (by first | decide | omega) (by first | decide | omega)] at q; rw [K _ (by omega) (by omega), K _ (by omega) (by omega)]; exact cm j q) (fun j q => by rw [K 10 (by first | decide | omega) (by first | decide | omega)] at q; rw [K _ (by omega) (by omega), K _ (by omega) (by omega)]; exact cw j q) (by rw [K 13 (by first | decide | omega) (by first | decide | omega), K 12 (by first | decide | omega) (by first | decide | omega)]; exact g2'), hW⟩
theorem qx_isScratchLine {tp ndf qrf qmf qwf qpf qhnf qhtf qhjf qhmf qhbf qhsf qhcf ndg qrg qmg qwg qpg qhng qhtg qhjg qhmg qhbg qhsg qhcg F T : Nat → Int32} {nmf nmg : Nat → Int64} {le le2 : Int64} {fn fp n kd sta po va tk ta ndn qmd qtr qrn qmn qwn qpn qhnn qhtn qhjn qhmn qhbn qhsn qhcn fn2 fp2 kd2 sta2 po2 va2 tk2 ta2 ndk qrk qmk qwk qpk qmd2 qtr2 qhnk qhtk qhjk qhmk qhbk qhsk qhck r a : Int32} (hn : IV n 0 900) (ht : TpR tp T) (hH : HRel F ndn nmf ndf qrn qrf qmn qmf qwn qwf qpn qhnn qhtn qhjn qhmn qhbn qhsn qhcn) (hV : HV F qrf qmf qwf qpf qhnf qhtf qhjf qhmf qhbf qhsf qhcf) (h15 : F 15 ≠ 0) (hs : XS T n a kd sta po va le) (h : R_x_isScratchLineX fn fp n kd sta po va le tk ta tp nmf ndn ndf qmd qtr qrn qrf qmn qmf qwn qwf qpn qpf qhnn qhnf qhtn qhtf qhjn qhjf qhmn qhmf qhbn qhbf qhsn qhsf qhcn qhcf fn2 fp2 kd2 sta2 po2 va2 le2 tk2 ta2 nmg ndg ndk qrg qmg qwg qpg qrk qmk qwk qpk qmd2 qtr2 qhng qhtg qhjg qhmg qhbg qhsg qhcg qhnk qhtk qhjk qhmk qhbk qhsk qhck r) : XF T n (bnd (opnS F T n (bcap 6 (F 14)) a) (scratchS F T n)) fn fp r fn2 fp2 kd2 sta2 po2 va2 le2 (fun G => HRel G ndk nmg ndg qrk qrg qmk qmg qwk qwg qpk qhnk qhtk qhjk qhmk qhbk qhsk qhck ∧ HV G qrg qmg qwg qpg qhng qhtg qhjg qhmg qhbg qhsg qhcg) := by
  have hH0 := hH
  refine exA14 hH ?_
  clear hH
  intro zc13 zc14 zc15 c12 cb cr cm cw cN cd f1' f2' f3' g1' g2'
  refine exA1 zc13 ?_
  clear zc13
  intro a1 a2
  refine exA8 zc14 ?_
  clear zc14
  intro b1 b2 b3 b4 b5 b6 b7 b8 b9
  refine exA7 zc15 ?_
  clear zc15
  intro i6 i7 i8 i9 i10 i11 i13 i14
  have e8 : (8 : Int32).toInt = 8 := by decide
  have e6 : (6 : Int32).toInt = 6 := by decide
  rw [room_opn h15]
  unfold R_x_isScratchLineX at h
  refine exE8 h ?_
  clear h
  intro f1 g1 k1 s1 p1 v1 l1' r1 hh1 h
  rw [b9] at hh1
  have m1 := qx_room6 hn ht hs hh1
  skip
  cases hc1 : roomS T n 6 (F 14) a with
  | inl e =>
    rw [hc1] at m1
    refine exA2 (XL_l m1) ?_
    intro x1 x2 x3
    first | replace h := pf1 h x1 | replace h := pf2 h x1
    have l1 := h.1
    have l2 := h.2.1
    have l37 := h.2.2.2.2.2.2.2.2.2.2.2.2.2.2.2.2.2.2.2.2.2.2.2.2.2.2.2.2.2.2.2.2.2.2.2.2
    simp only [scratchS, aft_def, hc1, bnd]
    exact ⟨(by first | exact l37 | rw [l37, x1]), by rw [l1, x2], by rw [l2, x3]⟩
  | inr u1 =>
    rw [hc1] at m1
    refine exA3 (XL_r m1) ?_
    intro x1 yf1 yg1 xs1
    first | replace h := pk1 h x1 | replace h := pk2 h x1
    refine exE10 h ?_
    clear h
    intro f2 g2 k2 s2 p2 v2 l2' tk2 ta2 r2 hh2 h
    have m2 := qx_oldR hn ht cN xs1 hh2
    skip
    cases hc2 : reelP F T n u1 with
    | inl e =>
      rw [hc2] at m2
      refine exA2 (XV_l m2) ?_
      intro x1 x2 x3
      first | replace h := pf1 h x1 | replace h := pf2 h x1
      have l1 := h.1
      have l2 := h.2.1
      have l37 := h.2.2.2.2.2.2.2.2.2.2.2.2.2.2.2.2.2.2.2.2.2.2.2.2.2.2.2.2.2.2.2.2.2.2.2.2
      simp only [scratchS, aft_def, hc1, hc2, bnd]
      exact ⟨(by first | exact l37 | rw [l37, x1]), by rw [l1, x2], by rw [l2, x3]⟩
    | inr u2 =>
      rw [hc2] at m2
      refine exA5 (XV_r m2) ?_
      intro x1 yf2 yg2 yt2 ya2 xs2
      first | replace h := pk1 h x1 | replace h := pk2 h x1
      refine exE1 h ?_
      clear h
      intro rl hl h
      refine exE10 h ?_
      clear h
      intro f3 g3 k3 s3 p3 v3 l3' tk3 ta3 r3 hh3 h
      rw [yt2] at hl
      have el := last_of (reelP_inr hc2).1 (reelP_lt f1' hc2) cr hl
      rw [el] at hh3
      have m3 := qx_whole hn ht xs2 hh3
      skip
      cases hc3 : numS T n 0 (F (16 + 3 * u2.1.toInt.toNat) - 1) u2.2 with
      | inl e =>
        rw [hc3] at m3
        refine exA2 (XV_l m3) ?_
        intro x1 x2 x3
        first | replace h := pf1 h x1 | replace h := pf2 h x1
        have l1 := h.1
        have l2 := h.2.1
        have l37 := h.2.2.2.2.2.2.2.2.2.2.2.2.2.2.2.2.2.2.2.2.2.2.2.2.2.2.2.2.2.2.2.2.2.2.2.2
        simp only [scratchS, aft_def, hc1, hc2, hc3, bnd]
        exact ⟨(by first | exact l37 | rw [l37, x1]), by rw [l1, x2], by rw [l2, x3]⟩
      | inr u3 =>
        rw [hc3] at m3
        refine exA5 (XV_r m3) ?_
        intro x1 yf3 yg3 yt3 ya3 xs3
        first | replace h := pk1 h x1 | replace h := pk2 h x1
        refine exE2 h ?_
        clear h
        intro gg kk hadd h
        refine exA36 h ?_
        intro l1 l2 l3 l4 l5 l6 l7 l8 l9 l10 l11 l12 l13 l14 l15 l16 l17 l18 l19 l20 l21 l22 l23 l24 l25 l26 l27 l28 l29 l30 l31 l32 l33 l34 l35 l36 l37
        obtain ⟨o1, o2⟩ := qt_add6_2 (by rw [b9]; exact ⟨by omega, by have := (rm_inr hc1).1; omega⟩) hadd
        simp only [scratchS, aft_def, hc1, hc2, hc3, bnd]
        subst l3 l4 l5 l6 l7
        refine ⟨l37, by rw [l1, yf3, yf2, yf1], by rw [l2, yg3, yg2, yg1], xs3, ?_⟩
        skip
        have lt := (rm_inr hc1).1
        have en := inc1 (u := F 14) (z := F 14 + 1) (a := 0) (b := 900) ⟨by omega, by omega⟩ (by omega) (by omega) rfl
        have K : ∀ i : Nat, i ≠ 14 → (i < 155 ∨ 166 < i) → (upd (upd (upd F (155 + 2 * (F 14).toInt.toNat) u2.1) (155 + 2 * (F 14).toInt.toNat + 1) u3.1) 14 (F 14 + 1)) i = F i := by
          intro i q1 q2
          rw [upd_ne q1, upd_ne (by omega), upd_ne (by omega)]
        have KX : (upd (upd (upd F (155 + 2 * (F 14).toInt.toNat) u2.1) (155 + 2 * (F 14).toInt.toNat + 1) u3.1) 14 (F 14 + 1)) 14 = F 14 + 1 := upd_at
        have hW := HV_scratch (g := gg) (G := (upd (upd (upd F (155 + 2 * (F 14).toInt.toNat) u2.1) (155 + 2 * (F 14).toInt.toNat + 1) u3.1) 14 (F 14 + 1))) (m := (F 14).toInt.toNat) hV ⟨i6, i7, i8, i9, i10, i11, i13, i14⟩ c12 (by omega) (by have := (rm_inr hc1).1; omega) (by rw [upd_at, inc1 (u := F 14) (z := F 14 + 1) (a := 0) (b := 900) ⟨by omega, by omega⟩ (by omega) (by omega) rfl]; omega) (fun i q1 q2 q3 => by rw [upd_ne q2, upd_ne (by omega), upd_ne (by omega)]) (by rw [upd_ne (by omega), upd_ne (by omega), upd_at]) (by rw [upd_ne (by omega), upd_at]) (by rw [o1, b9, yt2, yt3])
        rw [l10, l11, l12, l13, l14, l15, l16, l17, l18, l19, l20, l23, l24, l25, l26, l27, l28, l29, l30, l31, l32, l33, l34, l35, l36]
        generalize (upd (upd (upd F (155 + 2 * (F 14).toInt.toNat) u2.1) (155 + 2 * (F 14).toInt.toNat + 1) u3.1) 14 (F 14 + 1)) = G at *
        dsimp only
        exact ⟨HG hH0 h15 (K 15 (by first | decide | omega) (by first | decide | omega)) (K 6 (by first | decide | omega) (by first | decide | omega)) (K 7 (by first | decide | omega) (by first | decide | omega)) (K 11 (by first | decide | omega) (by first | decide | omega)) (fun i q => K i (by omega) (by omega)) (fun j q => K _ (by omega) (by omega)) (by rw [K 8 (by first | decide | omega) (by first | decide | omega)]; exact i8) (by rw [K 9 (by first | decide | omega) (by first | decide | omega)]; exact i9) (by rw [K 10 (by first | decide | omega) (by first | decide | omega)]; exact i10) (by rw [K 12 (by first | decide | omega) (by first | decide | omega)]; exact c12) (by rw [K 13 (by first | decide | omega) (by first | decide | omega)]; exact i13) (by rw [KX]; exact ⟨by omega, by omega⟩) (by rw [K 8 (by first | decide | omega) (by first | decide | omega)]; exact b3) (by rw [K 9 (by first | decide | omega) (by first | decide | omega)]; exact b4) (by rw [K 10 (by first | decide | omega) (by first | decide | omega)]; exact b5) (by rw [K 12 (by first | decide | omega) (by first | decide | omega)]; exact b7) (by rw [K 13 (by first | decide | omega) (by first | decide | omega)]; exact b8) (by rw [KX, o2, b9]) (by rw [K 134 (by first | decide | omega) (by first | decide | omega)]; exact cb) (fun j q => by rw [K 8 (by first | decide | omega) (by first | decide | omega)] at q; rw [K _ (by omega) (by omega), K _ (by omega) (by omega)]; exact cm j q) (fun j q => by rw [K 10 (by first | decide | omega) (by first | decide | omega)] at q; rw [K _ (by omega) (by omega), K _ (by omega) (by omega)]; exact cw j q) (by rw [K 13 (by first | decide | omega) (by first | decide | omega), K 12 (by first | decide | omega) (by first | decide | omega)]; exact g2'), hW⟩

set_option maxRecDepth 100000
set_option maxHeartbeats 4000000
theorem once_0 {F T : Nat → Int32} {n x a : Int32} (h15 : F 15 ≠ 0) (h : x ≤ 0) : onceS F T n (bpos x) a = .inr (nx T n a) := by
  unfold onceS bpos
  rw [if_pos h, if_pos rfl, if_neg h15]
theorem once_1 {F T : Nat → Int32} {n x a : Int32} (h : ¬ x ≤ 0) : onceS F T n (bpos x) a = .inl (3, a) := by
  unfold onceS bpos
  rw [if_neg h, if_neg one0]
theorem num_lo {T : Nat → Int32} {n lo hi a : Int32} {v : Int32 × Int32} (h : numS T n lo hi a = .inr v) : ¬ v.1 < lo ∧ ¬ hi < v.1 := by
  unfold numS numH at h
  by_cases q1 : tkF T n a = 2
  · rw [if_pos q1] at h
    by_cases q2 : valF T n a < lo
    · rw [if_pos q2, bnd_l] at h; cases h
    · rw [if_neg q2] at h
      by_cases q3 : hi < valF T n a
      · rw [if_pos q3, bnd_l] at h; cases h
      · rw [if_neg q3, bnd_r] at h
        have e := Sum.inr.inj h
        subst e
        exact ⟨q2, q3⟩
  · rw [if_neg q1, bnd_l] at h; cases h
theorem qx_isBoysLine {tp ndf qrf qmf qwf qpf qhnf qhtf qhjf qhmf qhbf qhsf qhcf ndg qrg qmg qwg qpg qhng qhtg qhjg qhmg qhbg qhsg qhcg F T : Nat → Int32} {nmf nmg : Nat → Int64} {le le2 : Int64} {fn fp n kd sta po va tk ta ndn qmd qtr qrn qmn qwn qpn qhnn qhtn qhjn qhmn qhbn qhsn qhcn fn2 fp2 kd2 sta2 po2 va2 tk2 ta2 ndk qrk qmk qwk qpk qmd2 qtr2 qhnk qhtk qhjk qhmk qhbk qhsk qhck r a : Int32} (hn : IV n 0 900) (ht : TpR tp T) (hH : HRel F ndn nmf ndf qrn qrf qmn qmf qwn qwf qpn qhnn qhtn qhjn qhmn qhbn qhsn qhcn) (hV : HV F qrf qmf qwf qpf qhnf qhtf qhjf qhmf qhbf qhsf qhcf) (h15 : F 15 ≠ 0) (hs : XS T n a kd sta po va le) (h : R_x_isBoysLineX fn fp n kd sta po va le tk ta tp nmf ndn ndf qmd qtr qrn qrf qmn qmf qwn qwf qpn qpf qhnn qhnf qhtn qhtf qhjn qhjf qhmn qhmf qhbn qhbf qhsn qhsf qhcn qhcf fn2 fp2 kd2 sta2 po2 va2 le2 tk2 ta2 nmg ndg ndk qrg qmg qwg qpg qrk qmk qwk qpk qmd2 qtr2 qhng qhtg qhjg qhmg qhbg qhsg qhcg qhnk qhtk qhjk qhmk qhbk qhsk qhck r) : XF T n (bnd (onceS F T n (bpos (F 134)) a) (boysS F T n)) fn fp r fn2 fp2 kd2 sta2 po2 va2 le2 (fun G => HRel G ndk nmg ndg qrk qrg qmk qmg qwk qwg qpk qhnk qhtk qhjk qhmk qhbk qhsk qhck ∧ HV G qrg qmg qwg qpg qhng qhtg qhjg qhmg qhbg qhsg qhcg) := by
  have hH0 := hH
  refine exA14 hH ?_
  clear hH
  intro zc1 zc2 zc3 c12 cb cr cm cw cN cd f1' f2' f3' g1' g2'
  refine exA1 zc1 ?_
  clear zc1
  intro a1 a2
  refine exA8 zc2 ?_
  clear zc2
  intro b1 b2 b3 b4 b5 b6 b7 b8 b9
  refine exA7 zc3 ?_
  clear zc3
  intro i6 i7 i8 i9 i10 i11 i13 i14
  have e8 : (8 : Int32).toInt = 8 := by decide
  have e6 : (6 : Int32).toInt = 6 := by decide
  unfold R_x_isBoysLineX at h
  rcases cb with ⟨cb1, cb2⟩ | ⟨cb1, cb2⟩
  case inr =>
    rw [once_1 (by rw [le_I, zI]; omega), bnd_l]
    rcases h with ⟨q, -⟩ | ⟨-, h⟩
    · rw [cb1] at q; exact absurd q (by decide)
    · obtain ⟨f, p, r2, ⟨b1', b2', b3'⟩, h⟩ := h
      have l1 := h.1
      have l2 := h.2.1
      have l37 := h.2.2.2.2.2.2.2.2.2.2.2.2.2.2.2.2.2.2.2.2.2.2.2.2.2.2.2.2.2.2.2.2.2.2.2.2
      obtain ⟨s1, s2, s3⟩ := hs
      exact ⟨by rw [l37, b3'], by rw [l1, b1'], by rw [l2, b2', s1]⟩
  rw [once_0 h15 (by rw [cb2]; decide), bnd_r]
  rcases h with ⟨-, h⟩ | ⟨q, -⟩
  case inr => rw [cb1] at q; exact absurd (by decide) q
  refine exE5 h ?_
  clear h
  intro k0 s0 p0 v0 l0 hx0 h
  have xs0 := x_next_at hn ht hs hx0
  refine exE10 h ?_
  clear h
  intro f1 g1 k1 s1 p1 v1 l1' tk1 ta1 r1 hh1 h
  have m1 := qx_whole hn ht xs0 hh1
  skip
  cases hc1 : numS T n 1 4 (nx T n a) with
  | inl e =>
    rw [hc1] at m1
    refine exA2 (XV_l m1) ?_
    intro x1 x2 x3
    first | replace h := pf1 h x1 | replace h := pf2 h x1
    have l1 := h.1
    have l2 := h.2.1
    have l37 := h.2.2.2.2.2.2.2.2.2.2.2.2.2.2.2.2.2.2.2.2.2.2.2.2.2.2.2.2.2.2.2.2.2.2.2.2
    simp only [boysS, aft_def, hc1, bnd]
    exact ⟨(by first | exact l37 | rw [l37, x1]), by rw [l1, x2], by rw [l2, x3]⟩
  | inr u1 =>
    rw [hc1] at m1
    refine exA5 (XV_r m1) ?_
    intro x1 yf1 yg1 yt1 ya1 xs1
    first | replace h := pk1 h x1 | replace h := pk2 h x1
    refine exE8 h ?_
    clear h
    intro f2 g2 k2 s2 p2 v2 l2' r2 hh2 h
    have m2 := qx_label hn ht wok_ride xs1 hh2
    skip
    cases hc2 : labS T n "ride" u1.2 with
    | inl e =>
      rw [hc2] at m2
      refine exA2 (XL_l m2) ?_
      intro x1 x2 x3
      first | replace h := pf1 h x1 | replace h := pf2 h x1
      have l1 := h.1
      have l2 := h.2.1
      have l37 := h.2.2.2.2.2.2.2.2.2.2.2.2.2.2.2.2.2.2.2.2.2.2.2.2.2.2.2.2.2.2.2.2.2.2.2.2
      simp only [boysS, aft_def, hc1, hc2, bnd]
      exact ⟨(by first | exact l37 | rw [l37, x1]), by rw [l1, x2], by rw [l2, x3]⟩
    | inr u2 =>
      rw [hc2] at m2
      refine exA3 (XL_r m2) ?_
      intro x1 yf2 yg2 xs2
      first | replace h := pk1 h x1 | replace h := pk2 h x1
      refine exE10 h ?_
      clear h
      intro f3 g3 k3 s3 p3 v3 l3' tk3 ta3 r3 hh3 h
      have m3 := qx_whole hn ht xs2 hh3
      skip
      cases hc3 : numS T n 1 2000 u2 with
      | inl e =>
        rw [hc3] at m3
        refine exA2 (XV_l m3) ?_
        intro x1 x2 x3
        first | replace h := pf1 h x1 | replace h := pf2 h x1
        have l1 := h.1
        have l2 := h.2.1
        have l37 := h.2.2.2.2.2.2.2.2.2.2.2.2.2.2.2.2.2.2.2.2.2.2.2.2.2.2.2.2.2.2.2.2.2.2.2.2
        simp only [boysS, aft_def, hc1, hc2, hc3, bnd]
        exact ⟨(by first | exact l37 | rw [l37, x1]), by rw [l1, x2], by rw [l2, x3]⟩
      | inr u3 =>
        rw [hc3] at m3
        refine exA5 (XV_r m3) ?_
        intro x1 yf3 yg3 yt3 ya3 xs3
        first | replace h := pk1 h x1 | replace h := pk2 h x1
        refine exE8 h ?_
        clear h
        intro f4 g4 k4 s4 p4 v4 l4' r4 hh4 h
        have m4 := qx_label hn ht wok_falls xs3 hh4
        skip
        cases hc4 : labS T n "falls" u3.2 with
        | inl e =>
          rw [hc4] at m4
          refine exA2 (XL_l m4) ?_
          intro x1 x2 x3
          first | replace h := pf1 h x1 | replace h := pf2 h x1
          have l1 := h.1
          have l2 := h.2.1
          have l37 := h.2.2.2.2.2.2.2.2.2.2.2.2.2.2.2.2.2.2.2.2.2.2.2.2.2.2.2.2.2.2.2.2.2.2.2.2
          simp only [boysS, aft_def, hc1, hc2, hc3, hc4, bnd]
          exact ⟨(by first | exact l37 | rw [l37, x1]), by rw [l1, x2], by rw [l2, x3]⟩
        | inr u4 =>
          rw [hc4] at m4
          refine exA3 (XL_r m4) ?_
          intro x1 yf4 yg4 xs4
          first | replace h := pk1 h x1 | replace h := pk2 h x1
          refine exE10 h ?_
          clear h
          intro f5 g5 k5 s5 p5 v5 l5' tk5 ta5 r5 hh5 h
          have m5 := qx_whole hn ht xs4 hh5
          skip
          cases hc5 : numS T n 0 50 u4 with
          | inl e =>
            rw [hc5] at m5
            refine exA2 (XV_l m5) ?_
            intro x1 x2 x3
            first | replace h := pf1 h x1 | replace h := pf2 h x1
            have l1 := h.1
            have l2 := h.2.1
            have l37 := h.2.2.2.2.2.2.2.2.2.2.2.2.2.2.2.2.2.2.2.2.2.2.2.2.2.2.2.2.2.2.2.2.2.2.2.2
            simp only [boysS, aft_def, hc1, hc2, hc3, hc4, hc5, bnd]
            exact ⟨(by first | exact l37 | rw [l37, x1]), by rw [l1, x2], by rw [l2, x3]⟩
          | inr u5 =>
            rw [hc5] at m5
            refine exA5 (XV_r m5) ?_
            intro x1 yf5 yg5 yt5 ya5 xs5
            first | replace h := pk1 h x1 | replace h := pk2 h x1
            refine exE2 h ?_
            clear h
            intro gg kk hadd h
            refine exA36 h ?_
            intro l1 l2 l3 l4 l5 l6 l7 l8 l9 l10 l11 l12 l13 l14 l15 l16 l17 l18 l19 l20 l21 l22 l23 l24 l25 l26 l27 l28 l29 l30 l31 l32 l33 l34 l35 l36 l37
            obtain ⟨o1, o2⟩ := qt_add1_3 (by rw [cb1]; decide) hadd
            simp only [boysS, aft_def, hc1, hc2, hc3, hc4, hc5, bnd]
            subst l3 l4 l5 l6 l7
            refine ⟨l37, by rw [l1, yf5, yf4, yf3, yf2, yf1], by rw [l2, yg5, yg4, yg3, yg2, yg1], xs5, ?_⟩
            skip
            have K : ∀ i : Nat, (i < 134 ∨ 136 < i) → (upd (upd (upd F 135 u3.1) 136 u5.1) 134 u1.1) i = F i := by
              intro i q
              rw [upd_ne (by omega), upd_ne (by omega), upd_ne (by omega)]
            have K4 : (upd (upd (upd F 135 u3.1) 136 u5.1) 134 u1.1) 134 = u1.1 := upd_at
            rw [cb1, zI] at o1
            have hW := HV_boys (g := gg) (G := (upd (upd (upd F 135 u3.1) 136 u5.1) 134 u1.1)) hV ⟨i6, i7, i8, i9, i10, i11, i13, i14⟩ c12 (fun i _ q => by rw [upd_ne (by omega), upd_ne (by omega), upd_ne (by omega)]) (by rw [o1, yt1, yt3, yt5, upd3_0, upd_at]) (by rw [o1, yt1, yt3, yt5, upd3_1, upd_ne (by omega), upd_ne (by omega), upd_at]) (by rw [o1, yt1, yt3, yt5, upd3_2, upd_ne (by omega), upd_at])
            rw [l10, l11, l12, l13, l14, l15, l16, l17, l18, l19, l20, l23, l24, l25, l26, l27, l28, l29, l30, l31, l32, l33, l34, l35, l36]
            generalize (upd (upd (upd F 135 u3.1) 136 u5.1) 134 u1.1) = G at *
            dsimp only
            exact ⟨HG hH0 h15 (K 15 (by first | decide | omega)) (K 6 (by first | decide | omega)) (K 7 (by first | decide | omega)) (K 11 (by first | decide | omega)) (fun i q => K i (by omega)) (fun j q => K _ (by omega)) (by rw [K 8 (by first | decide | omega)]; exact i8) (by rw [K 9 (by first | decide | omega)]; exact i9) (by rw [K 10 (by first | decide | omega)]; exact i10) (by rw [K 12 (by first | decide | omega)]; exact c12) (by rw [K 13 (by first | decide | omega)]; exact i13) (by rw [K 14 (by first | decide | omega)]; exact i14) (by rw [K 8 (by first | decide | omega)]; exact b3) (by rw [K 9 (by first | decide | omega)]; exact b4) (by rw [K 10 (by first | decide | omega)]; exact b5) (by rw [K 12 (by first | decide | omega)]; exact b7) (by rw [K 13 (by first | decide | omega)]; exact b8) (by rw [K 14 (by first | decide | omega)]; exact b9) (Or.inr ⟨by rw [o2, cb1]; decide, by rw [K4]; have := (num_lo hc1).1; rw [lt_I, oneI] at this; omega⟩) (fun j q => by rw [K 8 (by first | decide | omega)] at q; rw [K _ (by omega), K _ (by omega)]; exact cm j q) (fun j q => by rw [K 10 (by first | decide | omega)] at q; rw [K _ (by omega), K _ (by omega)]; exact cw j q) (by rw [K 13 (by first | decide | omega), K 12 (by first | decide | omega)]; exact g2'), hW⟩

theorem seen_room {F T : Nat → Int32} {n a : Int32} (h15 : F 15 ≠ 0) (h12 : F 12 ≠ 0) (i13 : IV (F 13) 0 6) : seenS F T n a = bnd (roomS T n 6 (F 13) a) (fun b => bnd (numS T n 1 (F 12 - 1) b) (fun v1 => bnd (aftS T n "black" 0 9999 v1.2) (fun v2 => bnd (aftS T n "lost" 0 9999 v2.2) (fun v3 => .inr (upd (upd (upd (upd F (137 + 3 * (F 13).toInt.toNat) v1.1) (137 + 3 * (F 13).toInt.toNat + 1) v2.1) (137 + 3 * (F 13).toInt.toNat + 2) v3.1) 13 (F 13 + 1), v3.2))))) := by
  have e6 : (6 : Int32).toInt = 6 := by decide
  unfold seenS roomS
  by_cases q : F 13 = 6
  · rw [if_pos q, if_pos (by rw [q]; decide), bnd_l]
  · have : (F 13).toInt ≠ 6 := fun w => q (Int32.toInt_inj.mp (w.trans e6.symm))
    rw [if_neg q, if_neg h15, if_neg h12, if_neg (by rw [le_I, e6]; omega), bnd_r]
theorem qx_isSeenLine {tp ndf qrf qmf qwf qpf qhnf qhtf qhjf qhmf qhbf qhsf qhcf ndg qrg qmg qwg qpg qhng qhtg qhjg qhmg qhbg qhsg qhcg F T : Nat → Int32} {nmf nmg : Nat → Int64} {le le2 : Int64} {fn fp n kd sta po va tk ta ndn qmd qtr qrn qmn qwn qpn qhnn qhtn qhjn qhmn qhbn qhsn qhcn fn2 fp2 kd2 sta2 po2 va2 tk2 ta2 ndk qrk qmk qwk qpk qmd2 qtr2 qhnk qhtk qhjk qhmk qhbk qhsk qhck r a : Int32} (hn : IV n 0 900) (ht : TpR tp T) (hH : HRel F ndn nmf ndf qrn qrf qmn qmf qwn qwf qpn qhnn qhtn qhjn qhmn qhbn qhsn qhcn) (hV : HV F qrf qmf qwf qpf qhnf qhtf qhjf qhmf qhbf qhsf qhcf) (h15 : F 15 ≠ 0) (hs : XS T n a kd sta po va le) (h : R_x_isSeenLineX fn fp n kd sta po va le tk ta tp nmf ndn ndf qmd qtr qrn qrf qmn qmf qwn qwf qpn qpf qhnn qhnf qhtn qhtf qhjn qhjf qhmn qhmf qhbn qhbf qhsn qhsf qhcn qhcf fn2 fp2 kd2 sta2 po2 va2 le2 tk2 ta2 nmg ndg ndk qrg qmg qwg qpg qrk qmk qwk qpk qmd2 qtr2 qhng qhtg qhjg qhmg qhbg qhsg qhcg qhnk qhtk qhjk qhmk qhbk qhsk qhck r) : XF T n (seenS F T n a) fn fp r fn2 fp2 kd2 sta2 po2 va2 le2 (fun G => HRel G ndk nmg ndg qrk qrg qmk qmg qwk qwg qpk qhnk qhtk qhjk qhmk qhbk qhsk qhck ∧ HV G qrg qmg qwg qpg qhng qhtg qhjg qhmg qhbg qhsg qhcg) := by
  have hH0 := hH
  refine exA14 hH ?_
  clear hH
  intro zc4 zc5 zc6 c12 cb cr cm cw cN cd f1' f2' f3' g1' g2'
  refine exA1 zc4 ?_
  clear zc4
  intro a1 a2
  refine exA8 zc5 ?_
  clear zc5
  intro b1 b2 b3 b4 b5 b6 b7 b8 b9
  refine exA7 zc6 ?_
  clear zc6
  intro i6 i7 i8 i9 i10 i11 i13 i14
  have e8 : (8 : Int32).toInt = 8 := by decide
  have e6 : (6 : Int32).toInt = 6 := by decide
  unfold R_x_isSeenLineX at h
  by_cases q12 : F 12 = 0
  case pos =>
    rcases h with ⟨q, -⟩ | ⟨-, h⟩
    · exact absurd (b7.trans q12) q
    · obtain ⟨f, p, r2, ⟨b1', b2', b3'⟩, h⟩ := h
      have l1 := h.1
      have l2 := h.2.1
      have l37 := h.2.2.2.2.2.2.2.2.2.2.2.2.2.2.2.2.2.2.2.2.2.2.2.2.2.2.2.2.2.2.2.2.2.2.2.2
      obtain ⟨s1, s2, s3⟩ := hs
      have z13 : F 13 ≠ 6 := by
        intro w
        have := g2' (by rw [w]; decide)
        rw [q12, zI] at this
        exact absurd this (by decide)
      unfold seenS
      rw [if_neg z13, if_neg h15, if_pos q12]
      exact ⟨by rw [l37, b3'], by rw [l1, b1'], by rw [l2, b2', s1]⟩
  rw [seen_room h15 q12 i13]
  rcases h with ⟨-, h⟩ | ⟨q, -⟩
  case inr => exact absurd (b7.symm.trans q) q12
  refine exE8 h ?_
  clear h
  intro f1 g1 k1 s1 p1 v1 l1' r1 hh1 h
  rw [b8] at hh1
  have m1 := qx_room4 hn ht hs hh1
  skip
  cases hc1 : roomS T n 6 (F 13) a with
  | inl e =>
    rw [hc1] at m1
    refine exA2 (XL_l m1) ?_
    intro x1 x2 x3
    first | replace h := pf1 h x1 | replace h := pf2 h x1
    have l1 := h.1
    have l2 := h.2.1
    have l37 := h.2.2.2.2.2.2.2.2.2.2.2.2.2.2.2.2.2.2.2.2.2.2.2.2.2.2.2.2.2.2.2.2.2.2.2.2
    simp only [aft_def, hc1, bnd]
    exact ⟨(by first | exact l37 | rw [l37, x1]), by rw [l1, x2], by rw [l2, x3]⟩
  | inr u1 =>
    rw [hc1] at m1
    refine exA3 (XL_r m1) ?_
    intro x1 yf1 yg1 xs1
    first | replace h := pk1 h x1 | replace h := pk2 h x1
    refine exE1 h ?_
    clear h
    intro z17 hz h
    refine exE10 h ?_
    clear h
    intro f2 g2 k2 s2 p2 v2 l2' tk2 ta2 r2 hh2 h
    rw [hz, b7] at hh2
    have m2 := qx_whole hn ht xs1 hh2
    skip
    cases hc2 : numS T n 1 (F 12 - 1) u1 with
    | inl e =>
      rw [hc2] at m2
      refine exA2 (XV_l m2) ?_
      intro x1 x2 x3
      first | replace h := pf1 h x1 | replace h := pf2 h x1
      have l1 := h.1
      have l2 := h.2.1
      have l37 := h.2.2.2.2.2.2.2.2.2.2.2.2.2.2.2.2.2.2.2.2.2.2.2.2.2.2.2.2.2.2.2.2.2.2.2.2
      simp only [aft_def, hc1, hc2, bnd]
      exact ⟨(by first | exact l37 | rw [l37, x1]), by rw [l1, x2], by rw [l2, x3]⟩
    | inr u2 =>
      rw [hc2] at m2
      refine exA5 (XV_r m2) ?_
      intro x1 yf2 yg2 yt2 ya2 xs2
      first | replace h := pk1 h x1 | replace h := pk2 h x1
      refine exE8 h ?_
      clear h
      intro f3 g3 k3 s3 p3 v3 l3' r3 hh3 h
      have m3 := qx_label hn ht wok_black xs2 hh3
      skip
      cases hc3 : labS T n "black" u2.2 with
      | inl e =>
        rw [hc3] at m3
        refine exA2 (XL_l m3) ?_
        intro x1 x2 x3
        first | replace h := pf1 h x1 | replace h := pf2 h x1
        have l1 := h.1
        have l2 := h.2.1
        have l37 := h.2.2.2.2.2.2.2.2.2.2.2.2.2.2.2.2.2.2.2.2.2.2.2.2.2.2.2.2.2.2.2.2.2.2.2.2
        simp only [aft_def, hc1, hc2, hc3, bnd]
        exact ⟨(by first | exact l37 | rw [l37, x1]), by rw [l1, x2], by rw [l2, x3]⟩
      | inr u3 =>
        rw [hc3] at m3
        refine exA3 (XL_r m3) ?_
        intro x1 yf3 yg3 xs3
        first | replace h := pk1 h x1 | replace h := pk2 h x1
        refine exE10 h ?_
        clear h
        intro f4 g4 k4 s4 p4 v4 l4' tk4 ta4 r4 hh4 h
        have m4 := qx_whole hn ht xs3 hh4
        skip
        cases hc4 : numS T n 0 9999 u3 with
        | inl e =>
          rw [hc4] at m4
          refine exA2 (XV_l m4) ?_
          intro x1 x2 x3
          first | replace h := pf1 h x1 | replace h := pf2 h x1
          have l1 := h.1
          have l2 := h.2.1
          have l37 := h.2.2.2.2.2.2.2.2.2.2.2.2.2.2.2.2.2.2.2.2.2.2.2.2.2.2.2.2.2.2.2.2.2.2.2.2
          simp only [aft_def, hc1, hc2, hc3, hc4, bnd]
          exact ⟨(by first | exact l37 | rw [l37, x1]), by rw [l1, x2], by rw [l2, x3]⟩
        | inr u4 =>
          rw [hc4] at m4
          refine exA5 (XV_r m4) ?_
          intro x1 yf4 yg4 yt4 ya4 xs4
          first | replace h := pk1 h x1 | replace h := pk2 h x1
          refine exE8 h ?_
          clear h
          intro f5 g5 k5 s5 p5 v5 l5' r5 hh5 h
          have m5 := qx_label hn ht wok_lost xs4 hh5
          skip
          cases hc5 : labS T n "lost" u4.2 with
          | inl e =>
            rw [hc5] at m5
            refine exA2 (XL_l m5) ?_
            intro x1 x2 x3
            first | replace h := pf1 h x1 | replace h := pf2 h x1
            have l1 := h.1
            have l2 := h.2.1
            have l37 := h.2.2.2.2.2.2.2.2.2.2.2.2.2.2.2.2.2.2.2.2.2.2.2.2.2.2.2.2.2.2.2.2.2.2.2.2
            simp only [aft_def, hc1, hc2, hc3, hc4, hc5, bnd]
            exact ⟨(by first | exact l37 | rw [l37, x1]), by rw [l1, x2], by rw [l2, x3]⟩
          | inr u5 =>
            rw [hc5] at m5
            refine exA3 (XL_r m5) ?_
            intro x1 yf5 yg5 xs5
            first | replace h := pk1 h x1 | replace h := pk2 h x1
            refine exE10 h ?_
            clear h
            intro f6 g6 k6 s6 p6 v6 l6' tk6 ta6 r6 hh6 h
            have m6 := qx_whole hn ht xs5 hh6
            skip
            cases hc6 : numS T n 0 9999 u5 with
            | inl e =>
              rw [hc6] at m6
              refine exA2 (XV_l m6) ?_
              intro x1 x2 x3
              first | replace h := pf1 h x1 | replace h := pf2 h x1
              have l1 := h.1
              have l2 := h.2.1
              have l37 := h.2.2.2.2.2.2.2.2.2.2.2.2.2.2.2.2.2.2.2.2.2.2.2.2.2.2.2.2.2.2.2.2.2.2.2.2
              simp only [aft_def, hc1, hc2, hc3, hc4, hc5, hc6, bnd]
              exact ⟨(by first | exact l37 | rw [l37, x1]), by rw [l1, x2], by rw [l2, x3]⟩
            | inr u6 =>
              rw [hc6] at m6
              refine exA5 (XV_r m6) ?_
              intro x1 yf6 yg6 yt6 ya6 xs6
              first | replace h := pk1 h x1 | replace h := pk2 h x1
              refine exE2 h ?_
              clear h
              intro gg kk hadd h
              refine exA36 h ?_
              intro l1 l2 l3 l4 l5 l6 l7 l8 l9 l10 l11 l12 l13 l14 l15 l16 l17 l18 l19 l20 l21 l22 l23 l24 l25 l26 l27 l28 l29 l30 l31 l32 l33 l34 l35 l36 l37
              obtain ⟨o1, o2⟩ := qt_add6_3 (by rw [b8]; exact ⟨by omega, by have := (rm_inr hc1).1; omega⟩) hadd
              simp only [aft_def, hc1, hc2, hc3, hc4, hc5, hc6, bnd]
              subst l3 l4 l5 l6 l7
              refine ⟨l37, by rw [l1, yf6, yf5, yf4, yf3, yf2, yf1], by rw [l2, yg6, yg5, yg4, yg3, yg2, yg1], xs6, ?_⟩
              skip
              have lt := (rm_inr hc1).1
              have en := inc1 (u := F 13) (z := F 13 + 1) (a := 0) (b := 900) ⟨by omega, by omega⟩ (by omega) (by omega) rfl
              have K : ∀ i : Nat, (i ≠ 13 ∧ (i < 137 ∨ 154 < i)) → (upd (upd (upd (upd F (137 + 3 * (F 13).toInt.toNat) u2.1) (137 + 3 * (F 13).toInt.toNat + 1) u4.1) (137 + 3 * (F 13).toInt.toNat + 2) u6.1) 13 (F 13 + 1)) i = F i := by
                intro i q
                rw [upd_ne q.1, upd_ne (by omega), upd_ne (by omega), upd_ne (by omega)]
              have KX : (upd (upd (upd (upd F (137 + 3 * (F 13).toInt.toNat) u2.1) (137 + 3 * (F 13).toInt.toNat + 1) u4.1) (137 + 3 * (F 13).toInt.toNat + 2) u6.1) 13 (F 13 + 1)) 13 = F 13 + 1 := upd_at
              have hW := HV_seen (g := gg) (G := (upd (upd (upd (upd F (137 + 3 * (F 13).toInt.toNat) u2.1) (137 + 3 * (F 13).toInt.toNat + 1) u4.1) (137 + 3 * (F 13).toInt.toNat + 2) u6.1) 13 (F 13 + 1))) (m := (F 13).toInt.toNat) hV ⟨i6, i7, i8, i9, i10, i11, i13, i14⟩ c12 (by omega) (by have := (rm_inr hc1).1; omega) (by rw [upd_at, inc1 (u := F 13) (z := F 13 + 1) (a := 0) (b := 900) ⟨by omega, by omega⟩ (by omega) (by omega) rfl]; omega) (fun i q1 q2 q3 => by rw [upd_ne q2, upd_ne (by omega), upd_ne (by omega), upd_ne (by omega)]) (by rw [upd_ne (by omega), upd_ne (by omega), upd_ne (by omega), upd_at]) (by rw [upd_ne (by omega), upd_ne (by omega), upd_at]) (by rw [upd_ne (by omega), upd_at]) (by rw [o1, b8, yt2, yt4, yt6])
              rw [l10, l11, l12, l13, l14, l15, l16, l17, l18, l19, l20, l23, l24, l25, l26, l27, l28, l29, l30, l31, l32, l33, l34, l35, l36]
              generalize (upd (upd (upd (upd F (137 + 3 * (F 13).toInt.toNat) u2.1) (137 + 3 * (F 13).toInt.toNat + 1) u4.1) (137 + 3 * (F 13).toInt.toNat + 2) u6.1) 13 (F 13 + 1)) = G at *
              dsimp only
              have p12 : 0 < (F 12).toInt := by have : (F 12).toInt ≠ 0 := fun w => q12 (Int32.toInt_inj.mp (w.trans zI.symm)); omega
              exact ⟨HG hH0 h15 (K 15 (by first | decide | omega)) (K 6 (by first | decide | omega)) (K 7 (by first | decide | omega)) (K 11 (by first | decide | omega)) (fun i q => K i (by omega)) (fun j q => K _ (by omega)) (by rw [K 8 (by first | decide | omega)]; exact i8) (by rw [K 9 (by first | decide | omega)]; exact i9) (by rw [K 10 (by first | decide | omega)]; exact i10) (by rw [K 12 (by first | decide | omega)]; exact c12) (by rw [KX]; exact ⟨by omega, by omega⟩) (by rw [K 14 (by first | decide | omega)]; exact i14) (by rw [K 8 (by first | decide | omega)]; exact b3) (by rw [K 9 (by first | decide | omega)]; exact b4) (by rw [K 10 (by first | decide | omega)]; exact b5) (by rw [K 12 (by first | decide | omega)]; exact b7) (by rw [KX, o2, b8]) (by rw [K 14 (by first | decide | omega)]; exact b9) (by rw [K 134 (by first | decide | omega)]; exact cb) (fun j q => by rw [K 8 (by first | decide | omega)] at q; rw [K _ (by omega), K _ (by omega)]; exact cm j q) (fun j q => by rw [K 10 (by first | decide | omega)] at q; rw [K _ (by omega), K _ (by omega)]; exact cw j q) (fun _ => by rw [K 12 (by first | decide | omega)]; exact p12), hW⟩

