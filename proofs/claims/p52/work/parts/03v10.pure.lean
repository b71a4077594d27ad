set_option maxRecDepth 100000
set_option maxHeartbeats 4000000
/-- what the class has read is what the reference has read -/
def HRel (F : Nat → Int32) (ndn : Int32) (nmf : Nat → Int64) (ndf : Nat → Int32) (qrn : Int32) (qrf : Nat → Int32) (qmn : Int32) (qmf : Nat → Int32) (qwn : Int32) (qwf : Nat → Int32) (qpn qhnn qhtn qhjn qhmn qhbn qhsn qhcn : Int32) : Prop :=
  (qhnn = F 15 ∧ (F 15 = 0 ∨ F 15 = 1)) ∧ (qrn = F 6 ∧ qhtn = F 7 ∧ qmn = F 8 ∧ qhjn = F 9 ∧ qwn = F 10 ∧ qhmn = F 11 ∧ qpn = F 12 ∧ qhsn = F 13 ∧ qhcn = F 14) ∧ FIv F ∧ IV (F 12) 0 8 ∧
  ((qhbn = 0 ∧ F 134 = 0) ∨ (qhbn = 1 ∧ 0 < (F 134).toInt)) ∧
  (∀ k : Nat, (k : Int) < (F 6).toInt → qrf (3 * k) = F (16 + 3 * k)) ∧
  (∀ k : Nat, (k : Int) < (F 8).toInt → qmf (3 * k) = F (44 + 3 * k) ∧ qmf (3 * k + 2) = F (44 + 3 * k + 2) ∧ 0 ≤ (qmf (3 * k + 1)).toInt) ∧
  (∀ k : Nat, (k : Int) < (F 10).toInt → qwf (3 * k) = F (96 + 3 * k) ∧ qwf (3 * k + 1) = F (96 + 3 * k + 1)) ∧
  NRel F nmf ndf ndn ∧ ndn.toInt = (F 6).toInt + (F 7).toInt + (F 11).toInt ∧
  (∀ j : Nat, j < 8 → (F 6).toInt ≤ j → ¬ 0 < (F (167 + j)).toInt) ∧ (∀ j : Nat, j < 4 → (F 7).toInt ≤ j → ¬ 0 < (F (175 + j)).toInt) ∧ (∀ j : Nat, j < 4 → (F 11).toInt ≤ j → ¬ 0 < (F (179 + j)).toInt) ∧
  (F 15 = 0 → F 6 = 0 ∧ F 7 = 0 ∧ F 8 = 0 ∧ F 9 = 0 ∧ F 10 = 0 ∧ F 11 = 0 ∧ F 12 = 0 ∧ F 13 = 0 ∧ F 14 = 0 ∧ F 134 = 0) ∧ (0 < (F 13).toInt → 0 < (F 12).toInt)
def XF (T : Nat → Int32) (n : Int32) (σ : Rs ((Nat → Int32) × Int32)) (fn fp r fn2 fp2 kd2 sta2 po2 va2 : Int32) (le2 : Int64) (H : (Nat → Int32) → Prop) : Prop := match σ with
  | .inl e => r = 0 ∧ fn2 = e.1 ∧ fp2 = e.2
  | .inr v => r = 1 ∧ fn2 = fn ∧ fp2 = fp ∧ XS T n v.2 kd2 sta2 po2 va2 le2 ∧ H v.1
def roomS (T : Nat → Int32) (n c x a : Int32) : Rs Int32 := if c ≤ x then .inl (5, a) else .inr (nx T n a)
theorem room_opn {F T : Nat → Int32} {n c x a : Int32} (h : F 15 ≠ 0) : opnS F T n (bcap c x) a = roomS T n c x a := by
  unfold opnS bcap roomS
  by_cases q : c ≤ x
  · rw [if_pos q, if_pos rfl, if_pos q]
  · rw [if_neg q, if_neg one0, if_neg h, if_neg q]
theorem XL_l {T : Nat → Int32} {n fn fp r fn2 fp2 kd2 sta2 po2 va2 : Int32} {le2 : Int64} {e : Int32 × Int32} (h : XL T n (.inl e) fn fp r fn2 fp2 kd2 sta2 po2 va2 le2) : r = 0 ∧ fn2 = e.1 ∧ fp2 = e.2 := h
theorem XL_r {T : Nat → Int32} {n fn fp r fn2 fp2 kd2 sta2 po2 va2 : Int32} {le2 : Int64} {b : Int32} (h : XL T n (.inr b) fn fp r fn2 fp2 kd2 sta2 po2 va2 le2) : r = 1 ∧ fn2 = fn ∧ fp2 = fp ∧ XS T n b kd2 sta2 po2 va2 le2 := h
theorem XV_l {T : Nat → Int32} {n a fn fp r fn2 fp2 kd2 sta2 po2 va2 tk2 ta2 : Int32} {le2 : Int64} {e : Int32 × Int32} (h : XV T n a (.inl e) fn fp r fn2 fp2 kd2 sta2 po2 va2 le2 tk2 ta2) : r = 0 ∧ fn2 = e.1 ∧ fp2 = e.2 := h
theorem XV_r {T : Nat → Int32} {n a fn fp r fn2 fp2 kd2 sta2 po2 va2 tk2 ta2 : Int32} {le2 : Int64} {v : Int32 × Int32} (h : XV T n a (.inr v) fn fp r fn2 fp2 kd2 sta2 po2 va2 le2 tk2 ta2) : r = 1 ∧ fn2 = fn ∧ fp2 = fp ∧ tk2 = v.1 ∧ ta2 = a ∧ XS T n v.2 kd2 sta2 po2 va2 le2 := h
theorem XN_l {T : Nat → Int32} {n fn fp r fn2 fp2 kd2 sta2 po2 va2 ndk ndn : Int32} {le2 : Int64} {nmg : Nat → Int64} {ndg : Nat → Int32} {e : Int32 × Int32} (h : XN T n (.inl e) fn fp r fn2 fp2 kd2 sta2 po2 va2 le2 nmg ndg ndk ndn) : r = 0 ∧ fn2 = e.1 ∧ fp2 = e.2 := h
theorem XN_r {T : Nat → Int32} {n fn fp r fn2 fp2 kd2 sta2 po2 va2 ndk ndn : Int32} {le2 : Int64} {nmg : Nat → Int64} {ndg : Nat → Int32} {v : (Nat → Int32) × Int32} (h : XN T n (.inr v) fn fp r fn2 fp2 kd2 sta2 po2 va2 le2 nmg ndg ndk ndn) : r = 1 ∧ fn2 = fn ∧ fp2 = fp ∧ NRel v.1 nmg ndg ndk ∧ ndk = ndn + 1 ∧ XS T n v.2 kd2 sta2 po2 va2 le2 := h
theorem qx_room0 {T tp : Nat → Int32} {n a fn fp kd sta po va x r fn2 fp2 kd2 sta2 po2 va2 : Int32} {le le2 : Int64} (hn : IV n 0 900) (ht : TpR tp T) (hs : XS T n a kd sta po va le) (h : R_x_hasRoom0X fn fp n kd sta po va le tp x fn2 fp2 kd2 sta2 po2 va2 le2 r) : XL T n (roomS T n 8 x a) fn fp r fn2 fp2 kd2 sta2 po2 va2 le2 := by
  simp only [R_x_hasRoom0X] at h
  obtain ⟨r1, hr1, h⟩ := h
  unfold roomS
  by_cases q : x < 8
  · rw [if_pos q] at hr1
    rw [if_neg (Int32.not_le.mpr q)]
    rcases h with ⟨-, k', s', p', v', l', hx, k1, k2, k3, k4, k5, k6, k7, k8⟩ | ⟨q2, -⟩
    · have := x_next_at hn ht hs hx
      subst k3 k4 k5 k6 k7
      exact ⟨k8, k1, k2, this⟩
    · exact absurd hr1 q2
  · rw [if_neg q] at hr1
    rw [if_pos (Int32.not_lt.mp q)]
    rcases h with ⟨q2, -⟩ | ⟨-, f, p, r2, ⟨b1, b2, b3⟩, k1, k2, k3, k4, k5, k6, k7, k8⟩
    · rw [hr1] at q2; exact absurd q2 one0
    · obtain ⟨s1, s2, s3⟩ := hs
      exact ⟨by rw [k8, b3], by rw [k1, b1], by rw [k2, b2, s1]⟩
theorem qx_room1 {T tp : Nat → Int32} {n a fn fp kd sta po va x r fn2 fp2 kd2 sta2 po2 va2 : Int32} {le le2 : Int64} (hn : IV n 0 900) (ht : TpR tp T) (hs : XS T n a kd sta po va le) (h : R_x_hasRoom1X fn fp n kd sta po va le tp x fn2 fp2 kd2 sta2 po2 va2 le2 r) : XL T n (roomS T n 4 x a) fn fp r fn2 fp2 kd2 sta2 po2 va2 le2 := by
  simp only [R_x_hasRoom1X] at h
  obtain ⟨r1, hr1, h⟩ := h
  unfold roomS
  by_cases q : x < 4
  · rw [if_pos q] at hr1
    rw [if_neg (Int32.not_le.mpr q)]
    rcases h with ⟨-, k', s', p', v', l', hx, k1, k2, k3, k4, k5, k6, k7, k8⟩ | ⟨q2, -⟩
    · have := x_next_at hn ht hs hx
      subst k3 k4 k5 k6 k7
      exact ⟨k8, k1, k2, this⟩
    · exact absurd hr1 q2
  · rw [if_neg q] at hr1
    rw [if_pos (Int32.not_lt.mp q)]
    rcases h with ⟨q2, -⟩ | ⟨-, f, p, r2, ⟨b1, b2, b3⟩, k1, k2, k3, k4, k5, k6, k7, k8⟩
    · rw [hr1] at q2; exact absurd q2 one0
    · obtain ⟨s1, s2, s3⟩ := hs
      exact ⟨by rw [k8, b3], by rw [k1, b1], by rw [k2, b2, s1]⟩
theorem qx_room2 {T tp : Nat → Int32} {n a fn fp kd sta po va x r fn2 fp2 kd2 sta2 po2 va2 : Int32} {le le2 : Int64} (hn : IV n 0 900) (ht : TpR tp T) (hs : XS T n a kd sta po va le) (h : R_x_hasRoom2X fn fp n kd sta po va le tp x fn2 fp2 kd2 sta2 po2 va2 le2 r) : XL T n (roomS T n 12 x a) fn fp r fn2 fp2 kd2 sta2 po2 va2 le2 := by
  simp only [R_x_hasRoom2X] at h
  obtain ⟨r1, hr1, h⟩ := h
  unfold roomS
  by_cases q : x < 12
  · rw [if_pos q] at hr1
    rw [if_neg (Int32.not_le.mpr q)]
    rcases h with ⟨-, k', s', p', v', l', hx, k1, k2, k3, k4, k5, k6, k7, k8⟩ | ⟨q2, -⟩
    · have := x_next_at hn ht hs hx
      subst k3 k4 k5 k6 k7
      exact ⟨k8, k1, k2, this⟩
    · exact absurd hr1 q2
  · rw [if_neg q] at hr1
    rw [if_pos (Int32.not_lt.mp q)]
    rcases h with ⟨q2, -⟩ | ⟨-, f, p, r2, ⟨b1, b2, b3⟩, k1, k2, k3, k4, k5, k6, k7, k8⟩
    · rw [hr1] at q2; exact absurd q2 one0
    · obtain ⟨s1, s2, s3⟩ := hs
      exact ⟨by rw [k8, b3], by rw [k1, b1], by rw [k2, b2, s1]⟩
theorem qx_room3 {T tp : Nat → Int32} {n a fn fp kd sta po va x r fn2 fp2 kd2 sta2 po2 va2 : Int32} {le le2 : Int64} (hn : IV n 0 900) (ht : TpR tp T) (hs : XS T n a kd sta po va le) (h : R_x_hasRoom3X fn fp n kd sta po va le tp x fn2 fp2 kd2 sta2 po2 va2 le2 r) : XL T n (roomS T n 8 x a) fn fp r fn2 fp2 kd2 sta2 po2 va2 le2 := by
  simp only [R_x_hasRoom3X] at h
  obtain ⟨r1, hr1, h⟩ := h
  unfold roomS
  by_cases q : x < 8
  · rw [if_pos q] at hr1
    rw [if_neg (Int32.not_le.mpr q)]
    rcases h with ⟨-, k', s', p', v', l', hx, k1, k2, k3, k4, k5, k6, k7, k8⟩ | ⟨q2, -⟩
    · have := x_next_at hn ht hs hx
      subst k3 k4 k5 k6 k7
      exact ⟨k8, k1, k2, this⟩
    · exact absurd hr1 q2
  · rw [if_neg q] at hr1
    rw [if_pos (Int32.not_lt.mp q)]
    rcases h with ⟨q2, -⟩ | ⟨-, f, p, r2, ⟨b1, b2, b3⟩, k1, k2, k3, k4, k5, k6, k7, k8⟩
    · rw [hr1] at q2; exact absurd q2 one0
    · obtain ⟨s1, s2, s3⟩ := hs
      exact ⟨by rw [k8, b3], by rw [k1, b1], by rw [k2, b2, s1]⟩
theorem qx_room4 {T tp : Nat → Int32} {n a fn fp kd sta po va x r fn2 fp2 kd2 sta2 po2 va2 : Int32} {le le2 : Int64} (hn : IV n 0 900) (ht : TpR tp T) (hs : XS T n a kd sta po va le) (h : R_x_hasRoom4X fn fp n kd sta po va le tp x fn2 fp2 kd2 sta2 po2 va2 le2 r) : XL T n (roomS T n 6 x a) fn fp r fn2 fp2 kd2 sta2 po2 va2 le2 := by
  simp only [R_x_hasRoom4X] at h
  obtain ⟨r1, hr1, h⟩ := h
  unfold roomS
  by_cases q : x < 6
  · rw [if_pos q] at hr1
    rw [if_neg (Int32.not_le.mpr q)]
    rcases h with ⟨-, k', s', p', v', l', hx, k1, k2, k3, k4, k5, k6, k7, k8⟩ | ⟨q2, -⟩
    · have := x_next_at hn ht hs hx
      subst k3 k4 k5 k6 k7
      exact ⟨k8, k1, k2, this⟩
    · exact absurd hr1 q2
  · rw [if_neg q] at hr1
    rw [if_pos (Int32.not_lt.mp q)]
    rcases h with ⟨q2, -⟩ | ⟨-, f, p, r2, ⟨b1, b2, b3⟩, k1, k2, k3, k4, k5, k6, k7, k8⟩
    · rw [hr1] at q2; exact absurd q2 one0
    · obtain ⟨s1, s2, s3⟩ := hs
      exact ⟨by rw [k8, b3], by rw [k1, b1], by rw [k2, b2, s1]⟩
theorem qx_room5 {T tp : Nat → Int32} {n a fn fp kd sta po va x r fn2 fp2 kd2 sta2 po2 va2 : Int32} {le le2 : Int64} (hn : IV n 0 900) (ht : TpR tp T) (hs : XS T n a kd sta po va le) (h : R_x_hasRoom5X fn fp n kd sta po va le tp x fn2 fp2 kd2 sta2 po2 va2 le2 r) : XL T n (roomS T n 4 x a) fn fp r fn2 fp2 kd2 sta2 po2 va2 le2 := by
  simp only [R_x_hasRoom5X] at h
  obtain ⟨r1, hr1, h⟩ := h
  unfold roomS
  by_cases q : x < 4
  · rw [if_pos q] at hr1
    rw [if_neg (Int32.not_le.mpr q)]
    rcases h with ⟨-, k', s', p', v', l', hx, k1, k2, k3, k4, k5, k6, k7, k8⟩ | ⟨q2, -⟩
    · have := x_next_at hn ht hs hx
      subst k3 k4 k5 k6 k7
      exact ⟨k8, k1, k2, this⟩
    · exact absurd hr1 q2
  · rw [if_neg q] at hr1
    rw [if_pos (Int32.not_lt.mp q)]
    rcases h with ⟨q2, -⟩ | ⟨-, f, p, r2, ⟨b1, b2, b3⟩, k1, k2, k3, k4, k5, k6, k7, k8⟩
    · rw [hr1] at q2; exact absurd q2 one0
    · obtain ⟨s1, s2, s3⟩ := hs
      exact ⟨by rw [k8, b3], by rw [k1, b1], by rw [k2, b2, s1]⟩
theorem qx_room6 {T tp : Nat → Int32} {n a fn fp kd sta po va x r fn2 fp2 kd2 sta2 po2 va2 : Int32} {le le2 : Int64} (hn : IV n 0 900) (ht : TpR tp T) (hs : XS T n a kd sta po va le) (h : R_x_hasRoom6X fn fp n kd sta po va le tp x fn2 fp2 kd2 sta2 po2 va2 le2 r) : XL T n (roomS T n 6 x a) fn fp r fn2 fp2 kd2 sta2 po2 va2 le2 := by
  simp only [R_x_hasRoom6X] at h
  obtain ⟨r1, hr1, h⟩ := h
  unfold roomS
  by_cases q : x < 6
  · rw [if_pos q] at hr1
    rw [if_neg (Int32.not_le.mpr q)]
    rcases h with ⟨-, k', s', p', v', l', hx, k1, k2, k3, k4, k5, k6, k7, k8⟩ | ⟨q2, -⟩
    · have := x_next_at hn ht hs hx
      subst k3 k4 k5 k6 k7
      exact ⟨k8, k1, k2, this⟩
    · exact absurd hr1 q2
  · rw [if_neg q] at hr1
    rw [if_pos (Int32.not_lt.mp q)]
    rcases h with ⟨q2, -⟩ | ⟨-, f, p, r2, ⟨b1, b2, b3⟩, k1, k2, k3, k4, k5, k6, k7, k8⟩
    · rw [hr1] at q2; exact absurd q2 one0
    · obtain ⟨s1, s2, s3⟩ := hs
      exact ⟨by rw [k8, b3], by rw [k1, b1], by rw [k2, b2, s1]⟩
theorem wrN_lt {F T : Nat → Int32} {n a : Int32} {s i : Nat} (h : i < 167) : wrN F T n a s i = F i := by
  unfold wrN
  rw [upd_ne (by omega), wrL_lt _ _ (by omega)]
theorem new_inr {F T : Nat → Int32} {n a : Int32} {s : Nat} {v : (Nat → Int32) × Int32} (h : newS F T n s a = .inr v) : v.1 = wrN F T n a s ∧ v.2 = nx T n a := by
  unfold newS at h
  by_cases ok : NameOk T n a
  · rw [if_pos ok] at h
    split at h
    · have := Sum.inr.inj h; subst this; exact ⟨rfl, rfl⟩
    · cases h
  · rw [if_neg ok] at h; cases h
/-- all that the tables of the class hold is what the reference has read -/
def TV (F f : Nat → Int32) (c b w : Nat) : Prop := ∀ k j : Nat, (k : Int) < (F c).toInt → j < w → f (w * k + j) = F (b + w * k + j)
def HV (F qrf qmf qwf qpf qhnf qhtf qhjf qhmf qhbf qhsf qhcf : Nat → Int32) : Prop := TV F qrf 6 16 3 ∧ TV F qmf 8 44 3 ∧ TV F qwf 10 96 3 ∧ (∀ k : Nat, (k : Int) < (F 12).toInt → qpf (2 * k) = F (126 + k) ∧ qpf (2 * k + 1) = F 2) ∧ (F 15 ≠ 0 → ∀ j : Nat, j < 6 → qhnf j = F j) ∧ TV F qhtf 7 40 1 ∧ TV F qhjf 9 80 2 ∧ (∀ k : Nat, (k : Int) < (F 11).toInt → qhmf (3 * k) = F (114 + 3 * k) ∧ qhmf (3 * k + 2) = F (114 + 3 * k + 2) ∧ (F (114 + 3 * k) = 3 → qhmf (3 * k + 1) = F (114 + 3 * k + 1))) ∧ (0 < (F 134).toInt → ∀ j : Nat, j < 3 → qhbf j = F (134 + j)) ∧ TV F qhsf 13 137 3 ∧ TV F qhcf 14 155 2
theorem TV_keep {F G f : Nat → Int32} {c b w cap : Nat} (h : TV F f c b w) (hc : G c = F c) (hcap : (F c).toInt ≤ cap) (hG : ∀ i : Nat, b ≤ i → i < b + w * cap → G i = F i) : TV G f c b w := by
  intro k j hk hj
  rw [hc] at hk
  have h1 : w * k + w ≤ w * cap := by
    have : w * (k + 1) ≤ w * cap := Nat.mul_le_mul_left w (by omega)
    rw [Nat.mul_add, Nat.mul_one] at this
    exact this
  rw [hG _ (by omega) (by omega)]
  exact h k j hk hj
theorem TV_add {F G f g : Nat → Int32} {c b w m : Nat} (h : TV F f c b w) (hm : (F c).toInt = m) (hc : (G c).toInt = m + 1) (hG : ∀ i : Nat, b ≤ i → i < b + w * m → G i = F i) (hf : ∀ i : Nat, i < w * m → g i = f i) (hn : ∀ j : Nat, j < w → g (w * m + j) = G (b + w * m + j)) : TV G g c b w := by
  intro k j hk hj
  by_cases q : k = m
  · subst q; exact hn j hj
  · have h1 : w * k + w ≤ w * m := by
      have : w * (k + 1) ≤ w * m := Nat.mul_le_mul_left w (by omega)
      rw [Nat.mul_add, Nat.mul_one] at this
      exact this
    rw [hG _ (by omega) (by omega), hf _ (by omega)]
    exact h k j (by omega) hj
theorem TV_nil {F f : Nat → Int32} {c b w : Nat} (h : F c = 0) : TV F f c b w := by
  intro k j hk
  rw [h, zI] at hk
  omega
theorem HV_reel {F G g qrf qmf qwf qpf qhnf qhtf qhjf qhmf qhbf qhsf qhcf : Nat → Int32} {x0 x1 x2 : Int32} {m : Nat} (hV : HV F qrf qmf qwf qpf qhnf qhtf qhjf qhmf qhbf qhsf qhcf) (hF : FIv F) (c12 : IV (F 12) 0 8) (hm : (F 6).toInt = m) (lt : m < 8) (KX : (G 6).toInt = m + 1) (KS : ∀ i : Nat, i < 167 → i ≠ 6 → (i < 16 + 3 * m ∨ 16 + 3 * m + 3 ≤ i) → G i = F i) (KN0 : G (16 + 3 * m) = x0) (KN1 : G (16 + 3 * m + 1) = x1) (KN2 : G (16 + 3 * m + 2) = x2) (hg : g = (upd (upd (upd qrf (m * 3 + 0) x0) (m * 3 + 1) x1) (m * 3 + 2) x2)) : HV G g qmf qwf qpf qhnf qhtf qhjf qhmf qhbf qhsf qhcf := by
  obtain ⟨v_qrf, v_qmf, v_qwf, v_qpf, v_qhnf, v_qhtf, v_qhjf, v_qhmf, v_qhbf, v_qhsf, v_qhcf⟩ := hV
  obtain ⟨⟨i6, j6⟩, ⟨i7, j7⟩, ⟨i8, j8⟩, ⟨i9, j9⟩, ⟨i10, j10⟩, ⟨i11, j11⟩, ⟨i13, j13⟩, ⟨i14, j14⟩⟩ := hF
  obtain ⟨i12, j12⟩ := c12
  refine ⟨?_, TV_keep (cap := 12) v_qmf (KS 8 (by first | decide | omega) (by first | decide | omega) (by first | decide | omega)) (by omega) (fun i q1 q2 => (KS i (by omega) (by omega) (by omega))), TV_keep (cap := 6) v_qwf (KS 10 (by first | decide | omega) (by first | decide | omega) (by first | decide | omega)) (by omega) (fun i q1 q2 => (KS i (by omega) (by omega) (by omega))), (fun k hk => by rw [(KS 12 (by first | decide | omega) (by first | decide | omega) (by first | decide | omega))] at hk; rw [(KS (126 + k) (by omega) (by omega) (by omega)), (KS 2 (by first | decide | omega) (by first | decide | omega) (by first | decide | omega))]; exact v_qpf k hk), (fun q j hj => by rw [(KS 15 (by first | decide | omega) (by first | decide | omega) (by first | decide | omega))] at q; rw [(KS j (by omega) (by omega) (by omega))]; exact v_qhnf q j hj), TV_keep (cap := 4) v_qhtf (KS 7 (by first | decide | omega) (by first | decide | omega) (by first | decide | omega)) (by omega) (fun i q1 q2 => (KS i (by omega) (by omega) (by omega))), TV_keep (cap := 8) v_qhjf (KS 9 (by first | decide | omega) (by first | decide | omega) (by first | decide | omega)) (by omega) (fun i q1 q2 => (KS i (by omega) (by omega) (by omega))), (fun k hk => by rw [(KS 11 (by first | decide | omega) (by first | decide | omega) (by first | decide | omega))] at hk; rw [(KS (114 + 3 * k) (by omega) (by omega) (by omega)), (KS (114 + 3 * k + 2) (by omega) (by omega) (by omega)), (KS (114 + 3 * k + 1) (by omega) (by omega) (by omega))]; exact v_qhmf k hk), (fun q j hj => by rw [(KS 134 (by first | decide | omega) (by first | decide | omega) (by first | decide | omega))] at q; rw [(KS (134 + j) (by omega) (by omega) (by omega))]; exact v_qhbf q j hj), TV_keep (cap := 6) v_qhsf (KS 13 (by first | decide | omega) (by first | decide | omega) (by first | decide | omega)) (by omega) (fun i q1 q2 => (KS i (by omega) (by omega) (by omega))), TV_keep (cap := 6) v_qhcf (KS 14 (by first | decide | omega) (by first | decide | omega) (by first | decide | omega)) (by omega) (fun i q1 q2 => (KS i (by omega) (by omega) (by omega)))⟩
  refine TV_add (m := m) v_qrf hm KX (fun i q1 q2 => KS i (by omega) (by omega) (by omega)) (fun i q => by rw [hg, upd_ne (by omega), upd_ne (by omega), upd_ne (by omega)]) (fun j hj => ?_)
  have hj' : j = 0 ∨ j = 1 ∨ j = 2 := by omega
  rcases hj' with rfl | rfl | rfl
  · rw [Nat.add_zero, Nat.add_zero, KN0, hg, upd_ne (by omega), upd_ne (by omega), show 3 * m = m * 3 + 0 by omega, upd_at]
  · rw [KN1, hg, upd_ne (by omega), show 3 * m + 1 = m * 3 + 1 by omega, upd_at]
  · rw [KN2, hg, show 3 * m + 2 = m * 3 + 2 by omega, upd_at]
theorem HV_mark {F G g qrf qmf qwf qpf qhnf qhtf qhjf qhmf qhbf qhsf qhcf : Nat → Int32} {x0 x1 x2 : Int32} {m : Nat} (hV : HV F qrf qmf qwf qpf qhnf qhtf qhjf qhmf qhbf qhsf qhcf) (hF : FIv F) (c12 : IV (F 12) 0 8) (hm : (F 8).toInt = m) (lt : m < 12) (KX : (G 8).toInt = m + 1) (KS : ∀ i : Nat, i < 167 → i ≠ 8 → (i < 44 + 3 * m ∨ 44 + 3 * m + 3 ≤ i) → G i = F i) (KN0 : G (44 + 3 * m) = x0) (KN1 : G (44 + 3 * m + 1) = x1) (KN2 : G (44 + 3 * m + 2) = x2) (hg : g = (upd (upd (upd qmf (m * 3 + 0) x0) (m * 3 + 1) x1) (m * 3 + 2) x2)) : HV G qrf g qwf qpf qhnf qhtf qhjf qhmf qhbf qhsf qhcf := by
  obtain ⟨v_qrf, v_qmf, v_qwf, v_qpf, v_qhnf, v_qhtf, v_qhjf, v_qhmf, v_qhbf, v_qhsf, v_qhcf⟩ := hV
  obtain ⟨⟨i6, j6⟩, ⟨i7, j7⟩, ⟨i8, j8⟩, ⟨i9, j9⟩, ⟨i10, j10⟩, ⟨i11, j11⟩, ⟨i13, j13⟩, ⟨i14, j14⟩⟩ := hF
  obtain ⟨i12, j12⟩ := c12
  refine ⟨TV_keep (cap := 8) v_qrf (KS 6 (by first | decide | omega) (by first | decide | omega) (by first | decide | omega)) (by omega) (fun i q1 q2 => (KS i (by omega) (by omega) (by omega))), ?_, TV_keep (cap := 6) v_qwf (KS 10 (by first | decide | omega) (by first | decide | omega) (by first | decide | omega)) (by omega) (fun i q1 q2 => (KS i (by omega) (by omega) (by omega))), (fun k hk => by rw [(KS 12 (by first | decide | omega) (by first | decide | omega) (by first | decide | omega))] at hk; rw [(KS (126 + k) (by omega) (by omega) (by omega)), (KS 2 (by first | decide | omega) (by first | decide | omega) (by first | decide | omega))]; exact v_qpf k hk), (fun q j hj => by rw [(KS 15 (by first | decide | omega) (by first | decide | omega) (by first | decide | omega))] at q; rw [(KS j (by omega) (by omega) (by omega))]; exact v_qhnf q j hj), TV_keep (cap := 4) v_qhtf (KS 7 (by first | decide | omega) (by first | decide | omega) (by first | decide | omega)) (by omega) (fun i q1 q2 => (KS i (by omega) (by omega) (by omega))), TV_keep (cap := 8) v_qhjf (KS 9 (by first | decide | omega) (by first | decide | omega) (by first | decide | omega)) (by omega) (fun i q1 q2 => (KS i (by omega) (by omega) (by omega))), (fun k hk => by rw [(KS 11 (by first | decide | omega) (by first | decide | omega) (by first | decide | omega))] at hk; rw [(KS (114 + 3 * k) (by omega) (by omega) (by omega)), (KS (114 + 3 * k + 2) (by omega) (by omega) (by omega)), (KS (114 + 3 * k + 1) (by omega) (by omega) (by omega))]; exact v_qhmf k hk), (fun q j hj => by rw [(KS 134 (by first | decide | omega) (by first | decide | omega) (by first | decide | omega))] at q; rw [(KS (134 + j) (by omega) (by omega) (by omega))]; exact v_qhbf q j hj), TV_keep (cap := 6) v_qhsf (KS 13 (by first | decide | omega) (by first | decide | omega) (by first | decide | omega)) (by omega) (fun i q1 q2 => (KS i (by omega) (by omega) (by omega))), TV_keep (cap := 6) v_qhcf (KS 14 (by first | decide | omega) (by first | decide | omega) (by first | decide | omega)) (by omega) (fun i q1 q2 => (KS i (by omega) (by omega) (by omega)))⟩
  refine TV_add (m := m) v_qmf hm KX (fun i q1 q2 => KS i (by omega) (by omega) (by omega)) (fun i q => by rw [hg, upd_ne (by omega), upd_ne (by omega), upd_ne (by omega)]) (fun j hj => ?_)
  have hj' : j = 0 ∨ j = 1 ∨ j = 2 := by omega
  rcases hj' with rfl | rfl | rfl
  · rw [Nat.add_zero, Nat.add_zero, KN0, hg, upd_ne (by omega), upd_ne (by omega), show 3 * m = m * 3 + 0 by omega, upd_at]
  · rw [KN1, hg, upd_ne (by omega), show 3 * m + 1 = m * 3 + 1 by omega, upd_at]
  · rw [KN2, hg, show 3 * m + 2 = m * 3 + 2 by omega, upd_at]
theorem HV_weak {F G g qrf qmf qwf qpf qhnf qhtf qhjf qhmf qhbf qhsf qhcf : Nat → Int32} {x0 x1 x2 : Int32} {m : Nat} (hV : HV F qrf qmf qwf qpf qhnf qhtf qhjf qhmf qhbf qhsf qhcf) (hF : FIv F) (c12 : IV (F 12) 0 8) (hm : (F 10).toInt = m) (lt : m < 6) (KX : (G 10).toInt = m + 1) (KS : ∀ i : Nat, i < 167 → i ≠ 10 → (i < 96 + 3 * m ∨ 96 + 3 * m + 3 ≤ i) → G i = F i) (KN0 : G (96 + 3 * m) = x0) (KN1 : G (96 + 3 * m + 1) = x1) (KN2 : G (96 + 3 * m + 2) = x2) (hg : g = (upd (upd (upd qwf (m * 3 + 0) x0) (m * 3 + 1) x1) (m * 3 + 2) x2)) : HV G qrf qmf g qpf qhnf qhtf qhjf qhmf qhbf qhsf qhcf := by
  obtain ⟨v_qrf, v_qmf, v_qwf, v_qpf, v_qhnf, v_qhtf, v_qhjf, v_qhmf, v_qhbf, v_qhsf, v_qhcf⟩ := hV
  obtain ⟨⟨i6, j6⟩, ⟨i7, j7⟩, ⟨i8, j8⟩, ⟨i9, j9⟩, ⟨i10, j10⟩, ⟨i11, j11⟩, ⟨i13, j13⟩, ⟨i14, j14⟩⟩ := hF
  obtain ⟨i12, j12⟩ := c12
  refine ⟨TV_keep (cap := 8) v_qrf (KS 6 (by first | decide | omega) (by first | decide | omega) (by first | decide | omega)) (by omega) (fun i q1 q2 => (KS i (by omega) (by omega) (by omega))), TV_keep (cap := 12) v_qmf (KS 8 (by first | decide | omega) (by first | decide | omega) (by first | decide | omega)) (by omega) (fun i q1 q2 => (KS i (by omega) (by omega) (by omega))), ?_, (fun k hk => by rw [(KS 12 (by first | decide | omega) (by first | decide | omega) (by first | decide | omega))] at hk; rw [(KS (126 + k) (by omega) (by omega) (by omega)), (KS 2 (by first | decide | omega) (by first | decide | omega) (by first | decide | omega))]; exact v_qpf k hk), (fun q j hj => by rw [(KS 15 (by first | decide | omega) (by first | decide | omega) (by first | decide | omega))] at q; rw [(KS j (by omega) (by omega) (by omega))]; exact v_qhnf q j hj), TV_keep (cap := 4) v_qhtf (KS 7 (by first | decide | omega) (by first | decide | omega) (by first | decide | omega)) (by omega) (fun i q1 q2 => (KS i (by omega) (by omega) (by omega))), TV_keep (cap := 8) v_qhjf (KS 9 (by first | decide | omega) (by first | decide | omega) (by first | decide | omega)) (by omega) (fun i q1 q2 => (KS i (by omega) (by omega) (by omega))), (fun k hk => by rw [(KS 11 (by first | decide | omega) (by first | decide | omega) (by first | decide | omega))] at hk; rw [(KS (114 + 3 * k) (by omega) (by omega) (by omega)), (KS (114 + 3 * k + 2) (by omega) (by omega) (by omega)), (KS (114 + 3 * k + 1) (by omega) (by omega) (by omega))]; exact v_qhmf k hk), (fun q j hj => by rw [(KS 134 (by first | decide | omega) (by first | decide | omega) (by first | decide | omega))] at q; rw [(KS (134 + j) (by omega) (by omega) (by omega))]; exact v_qhbf q j hj), TV_keep (cap := 6) v_qhsf (KS 13 (by first | decide | omega) (by first | decide | omega) (by first | decide | omega)) (by omega) (fun i q1 q2 => (KS i (by omega) (by omega) (by omega))), TV_keep (cap := 6) v_qhcf (KS 14 (by first | decide | omega) (by first | decide | omega) (by first | decide | omega)) (by omega) (fun i q1 q2 => (KS i (by omega) (by omega) (by omega)))⟩
  refine TV_add (m := m) v_qwf hm KX (fun i q1 q2 => KS i (by omega) (by omega) (by omega)) (fun i q => by rw [hg, upd_ne (by omega), upd_ne (by omega), upd_ne (by omega)]) (fun j hj => ?_)
  have hj' : j = 0 ∨ j = 1 ∨ j = 2 := by omega
  rcases hj' with rfl | rfl | rfl
  · rw [Nat.add_zero, Nat.add_zero, KN0, hg, upd_ne (by omega), upd_ne (by omega), show 3 * m = m * 3 + 0 by omega, upd_at]
  · rw [KN1, hg, upd_ne (by omega), show 3 * m + 1 = m * 3 + 1 by omega, upd_at]
  · rw [KN2, hg, show 3 * m + 2 = m * 3 + 2 by omega, upd_at]
theorem HV_town {F G g qrf qmf qwf qpf qhnf qhtf qhjf qhmf qhbf qhsf qhcf : Nat → Int32} {x0 : Int32} {m : Nat} (hV : HV F qrf qmf qwf qpf qhnf qhtf qhjf qhmf qhbf qhsf qhcf) (hF : FIv F) (c12 : IV (F 12) 0 8) (hm : (F 7).toInt = m) (lt : m < 4) (KX : (G 7).toInt = m + 1) (KS : ∀ i : Nat, i < 167 → i ≠ 7 → (i < 40 + 1 * m ∨ 40 + 1 * m + 1 ≤ i) → G i = F i) (KN0 : G (40 + 1 * m) = x0) (hg : g = (upd qhtf (m * 1 + 0) x0)) : HV G qrf qmf qwf qpf qhnf g qhjf qhmf qhbf qhsf qhcf := by
  obtain ⟨v_qrf, v_qmf, v_qwf, v_qpf, v_qhnf, v_qhtf, v_qhjf, v_qhmf, v_qhbf, v_qhsf, v_qhcf⟩ := hV
  obtain ⟨⟨i6, j6⟩, ⟨i7, j7⟩, ⟨i8, j8⟩, ⟨i9, j9⟩, ⟨i10, j10⟩, ⟨i11, j11⟩, ⟨i13, j13⟩, ⟨i14, j14⟩⟩ := hF
  obtain ⟨i12, j12⟩ := c12
  refine ⟨TV_keep (cap := 8) v_qrf (KS 6 (by first | decide | omega) (by first | decide | omega) (by first | decide | omega)) (by omega) (fun i q1 q2 => (KS i (by omega) (by omega) (by omega))), TV_keep (cap := 12) v_qmf (KS 8 (by first | decide | omega) (by first | decide | omega) (by first | decide | omega)) (by omega) (fun i q1 q2 => (KS i (by omega) (by omega) (by omega))), TV_keep (cap := 6) v_qwf (KS 10 (by first | decide | omega) (by first | decide | omega) (by first | decide | omega)) (by omega) (fun i q1 q2 => (KS i (by omega) (by omega) (by omega))), (fun k hk => by rw [(KS 12 (by first | decide | omega) (by first | decide | omega) (by first | decide | omega))] at hk; rw [(KS (126 + k) (by omega) (by omega) (by omega)), (KS 2 (by first | decide | omega) (by first | decide | omega) (by first | decide | omega))]; exact v_qpf k hk), (fun q j hj => by rw [(KS 15 (by first | decide | omega) (by first | decide | omega) (by first | decide | omega))] at q; rw [(KS j (by omega) (by omega) (by omega))]; exact v_qhnf q j hj), ?_, TV_keep (cap := 8) v_qhjf (KS 9 (by first | decide | omega) (by first | decide | omega) (by first | decide | omega)) (by omega) (fun i q1 q2 => (KS i (by omega) (by omega) (by omega))), (fun k hk => by rw [(KS 11 (by first | decide | omega) (by first | decide | omega) (by first | decide | omega))] at hk; rw [(KS (114 + 3 * k) (by omega) (by omega) (by omega)), (KS (114 + 3 * k + 2) (by omega) (by omega) (by omega)), (KS (114 + 3 * k + 1) (by omega) (by omega) (by omega))]; exact v_qhmf k hk), (fun q j hj => by rw [(KS 134 (by first | decide | omega) (by first | decide | omega) (by first | decide | omega))] at q; rw [(KS (134 + j) (by omega) (by omega) (by omega))]; exact v_qhbf q j hj), TV_keep (cap := 6) v_qhsf (KS 13 (by first | decide | omega) (by first | decide | omega) (by first | decide | omega)) (by omega) (fun i q1 q2 => (KS i (by omega) (by omega) (by omega))), TV_keep (cap := 6) v_qhcf (KS 14 (by first | decide | omega) (by first | decide | omega) (by first | decide | omega)) (by omega) (fun i q1 q2 => (KS i (by omega) (by omega) (by omega)))⟩
  refine TV_add (m := m) v_qhtf hm KX (fun i q1 q2 => KS i (by omega) (by omega) (by omega)) (fun i q => by rw [hg, upd_ne (by omega)]) (fun j hj => ?_)
  have hj' : j = 0 := by omega
  rcases hj' with rfl
  · rw [Nat.add_zero, Nat.add_zero, KN0, hg, show 1 * m = m * 1 + 0 by omega, upd_at]
theorem HV_join {F G g qrf qmf qwf qpf qhnf qhtf qhjf qhmf qhbf qhsf qhcf : Nat → Int32} {x0 x1 : Int32} {m : Nat} (hV : HV F qrf qmf qwf qpf qhnf qhtf qhjf qhmf qhbf qhsf qhcf) (hF : FIv F) (c12 : IV (F 12) 0 8) (hm : (F 9).toInt = m) (lt : m < 8) (KX : (G 9).toInt = m + 1) (KS : ∀ i : Nat, i < 167 → i ≠ 9 → (i < 80 + 2 * m ∨ 80 + 2 * m + 2 ≤ i) → G i = F i) (KN0 : G (80 + 2 * m) = x0) (KN1 : G (80 + 2 * m + 1) = x1) (hg : g = (upd (upd qhjf (m * 2 + 0) x0) (m * 2 + 1) x1)) : HV G qrf qmf qwf qpf qhnf qhtf g qhmf qhbf qhsf qhcf := by
  obtain ⟨v_qrf, v_qmf, v_qwf, v_qpf, v_qhnf, v_qhtf, v_qhjf, v_qhmf, v_qhbf, v_qhsf, v_qhcf⟩ := hV
  obtain ⟨⟨i6, j6⟩, ⟨i7, j7⟩, ⟨i8, j8⟩, ⟨i9, j9⟩, ⟨i10, j10⟩, ⟨i11, j11⟩, ⟨i13, j13⟩, ⟨i14, j14⟩⟩ := hF
  obtain ⟨i12, j12⟩ := c12
  refine ⟨TV_keep (cap := 8) v_qrf (KS 6 (by first | decide | omega) (by first | decide | omega) (by first | decide | omega)) (by omega) (fun i q1 q2 => (KS i (by omega) (by omega) (by omega))), TV_keep (cap := 12) v_qmf (KS 8 (by first | decide | omega) (by first | decide | omega) (by first | decide | omega)) (by omega) (fun i q1 q2 => (KS i (by omega) (by omega) (by omega))), TV_keep (cap := 6) v_qwf (KS 10 (by first | decide | omega) (by first | decide | omega) (by first | decide | omega)) (by omega) (fun i q1 q2 => (KS i (by omega) (by omega) (by omega))), (fun k hk => by rw [(KS 12 (by first | decide | omega) (by first | decide | omega) (by first | decide | omega))] at hk; rw [(KS (126 + k) (by omega) (by omega) (by omega)), (KS 2 (by first | decide | omega) (by first | decide | omega) (by first | decide | omega))]; exact v_qpf k hk), (fun q j hj => by rw [(KS 15 (by first | decide | omega) (by first | decide | omega) (by first | decide | omega))] at q; rw [(KS j (by omega) (by omega) (by omega))]; exact v_qhnf q j hj), TV_keep (cap := 4) v_qhtf (KS 7 (by first | decide | omega) (by first | decide | omega) (by first | decide | omega)) (by omega) (fun i q1 q2 => (KS i (by omega) (by omega) (by omega))), ?_, (fun k hk => by rw [(KS 11 (by first | decide | omega) (by first | decide | omega) (by first | decide | omega))] at hk; rw [(KS (114 + 3 * k) (by omega) (by omega) (by omega)), (KS (114 + 3 * k + 2) (by omega) (by omega) (by omega)), (KS (114 + 3 * k + 1) (by omega) (by omega) (by omega))]; exact v_qhmf k hk), (fun q j hj => by rw [(KS 134 (by first | decide | omega) (by first | decide | omega) (by first | decide | omega))] at q; rw [(KS (134 + j) (by omega) (by omega) (by omega))]; exact v_qhbf q j hj), TV_keep (cap := 6) v_qhsf (KS 13 (by first | decide | omega) (by first | decide | omega) (by first | decide | omega)) (by omega) (fun i q1 q2 => (KS i (by omega) (by omega) (by omega))), TV_keep (cap := 6) v_qhcf (KS 14 (by first | decide | omega) (by first | decide | omega) (by first | decide | omega)) (by omega) (fun i q1 q2 => (KS i (by omega) (by omega) (by omega)))⟩
  refine TV_add (m := m) v_qhjf hm KX (fun i q1 q2 => KS i (by omega) (by omega) (by omega)) (fun i q => by rw [hg, upd_ne (by omega), upd_ne (by omega)]) (fun j hj => ?_)
  have hj' : j = 0 ∨ j = 1 := by omega
  rcases hj' with rfl | rfl
  · rw [Nat.add_zero, Nat.add_zero, KN0, hg, upd_ne (by omega), show 2 * m = m * 2 + 0 by omega, upd_at]
  · rw [KN1, hg, show 2 * m + 1 = m * 2 + 1 by omega, upd_at]
theorem HV_seen {F G g qrf qmf qwf qpf qhnf qhtf qhjf qhmf qhbf qhsf qhcf : Nat → Int32} {x0 x1 x2 : Int32} {m : Nat} (hV : HV F qrf qmf qwf qpf qhnf qhtf qhjf qhmf qhbf qhsf qhcf) (hF : FIv F) (c12 : IV (F 12) 0 8) (hm : (F 13).toInt = m) (lt : m < 6) (KX : (G 13).toInt = m + 1) (KS : ∀ i : Nat, i < 167 → i ≠ 13 → (i < 137 + 3 * m ∨ 137 + 3 * m + 3 ≤ i) → G i = F i) (KN0 : G (137 + 3 * m) = x0) (KN1 : G (137 + 3 * m + 1) = x1) (KN2 : G (137 + 3 * m + 2) = x2) (hg : g = (upd (upd (upd qhsf (m * 3 + 0) x0) (m * 3 + 1) x1) (m * 3 + 2) x2)) : HV G qrf qmf qwf qpf qhnf qhtf qhjf qhmf qhbf g qhcf := by
  obtain ⟨v_qrf, v_qmf, v_qwf, v_qpf, v_qhnf, v_qhtf, v_qhjf, v_qhmf, v_qhbf, v_qhsf, v_qhcf⟩ := hV
  obtain ⟨⟨i6, j6⟩, ⟨i7, j7⟩, ⟨i8, j8⟩, ⟨i9, j9⟩, ⟨i10, j10⟩, ⟨i11, j11⟩, ⟨i13, j13⟩, ⟨i14, j14⟩⟩ := hF
  obtain ⟨i12, j12⟩ := c12
  refine ⟨TV_keep (cap := 8) v_qrf (KS 6 (by first | decide | omega) (by first | decide | omega) (by first | decide | omega)) (by omega) (fun i q1 q2 => (KS i (by omega) (by omega) (by omega))), TV_keep (cap := 12) v_qmf (KS 8 (by first | decide | omega) (by first | decide | omega) (by first | decide | omega)) (by omega) (fun i q1 q2 => (KS i (by omega) (by omega) (by omega))), TV_keep (cap := 6) v_qwf (KS 10 (by first | decide | omega) (by first | decide | omega) (by first | decide | omega)) (by omega) (fun i q1 q2 => (KS i (by omega) (by omega) (by omega))), (fun k hk => by rw [(KS 12 (by first | decide | omega) (by first | decide | omega) (by first | decide | omega))] at hk; rw [(KS (126 + k) (by omega) (by omega) (by omega)), (KS 2 (by first | decide | omega) (by first | decide | omega) (by first | decide | omega))]; exact v_qpf k hk), (fun q j hj => by rw [(KS 15 (by first | decide | omega) (by first | decide | omega) (by first | decide | omega))] at q; rw [(KS j (by omega) (by omega) (by omega))]; exact v_qhnf q j hj), TV_keep (cap := 4) v_qhtf (KS 7 (by first | decide | omega) (by first | decide | omega) (by first | decide | omega)) (by omega) (fun i q1 q2 => (KS i (by omega) (by omega) (by omega))), TV_keep (cap := 8) v_qhjf (KS 9 (by first | decide | omega) (by first | decide | omega) (by first | decide | omega)) (by omega) (fun i q1 q2 => (KS i (by omega) (by omega) (by omega))), (fun k hk => by rw [(KS 11 (by first | decide | omega) (by first | decide | omega) (by first | decide | omega))] at hk; rw [(KS (114 + 3 * k) (by omega) (by omega) (by omega)), (KS (114 + 3 * k + 2) (by omega) (by omega) (by omega)), (KS (114 + 3 * k + 1) (by omega) (by omega) (by omega))]; exact v_qhmf k hk), (fun q j hj => by rw [(KS 134 (by first | decide | omega) (by first | decide | omega) (by first | decide | omega))] at q; rw [(KS (134 + j) (by omega) (by omega) (by omega))]; exact v_qhbf q j hj), ?_, TV_keep (cap := 6) v_qhcf (KS 14 (by first | decide | omega) (by first | decide | omega) (by first | decide | omega)) (by omega) (fun i q1 q2 => (KS i (by omega) (by omega) (by omega)))⟩
  refine TV_add (m := m) v_qhsf hm KX (fun i q1 q2 => KS i (by omega) (by omega) (by omega)) (fun i q => by rw [hg, upd_ne (by omega), upd_ne (by omega), upd_ne (by omega)]) (fun j hj => ?_)
  have hj' : j = 0 ∨ j = 1 ∨ j = 2 := by omega
  rcases hj' with rfl | rfl | rfl
  · rw [Nat.add_zero, Nat.add_zero, KN0, hg, upd_ne (by omega), upd_ne (by omega), show 3 * m = m * 3 + 0 by omega, upd_at]
  · rw [KN1, hg, upd_ne (by omega), show 3 * m + 1 = m * 3 + 1 by omega, upd_at]
  · rw [KN2, hg, show 3 * m + 2 = m * 3 + 2 by omega, upd_at]
theorem HV_scratch {F G g qrf qmf qwf qpf qhnf qhtf qhjf qhmf qhbf qhsf qhcf : Nat → Int32} {x0 x1 : Int32} {m : Nat} (hV : HV F qrf qmf qwf qpf qhnf qhtf qhjf qhmf qhbf qhsf qhcf) (hF : FIv F) (c12 : IV (F 12) 0 8) (hm : (F 14).toInt = m) (lt : m < 6) (KX : (G 14).toInt = m + 1) (KS : ∀ i : Nat, i < 167 → i ≠ 14 → (i < 155 + 2 * m ∨ 155 + 2 * m + 2 ≤ i) → G i = F i) (KN0 : G (155 + 2 * m) = x0) (KN1 : G (155 + 2 * m + 1) = x1) (hg : g = (upd (upd qhcf (m * 2 + 0) x0) (m * 2 + 1) x1)) : HV G qrf qmf qwf qpf qhnf qhtf qhjf qhmf qhbf qhsf g := by
  obtain ⟨v_qrf, v_qmf, v_qwf, v_qpf, v_qhnf, v_qhtf, v_qhjf, v_qhmf, v_qhbf, v_qhsf, v_qhcf⟩ := hV
  obtain ⟨⟨i6, j6⟩, ⟨i7, j7⟩, ⟨i8, j8⟩, ⟨i9, j9⟩, ⟨i10, j10⟩, ⟨i11, j11⟩, ⟨i13, j13⟩, ⟨i14, j14⟩⟩ := hF
  obtain ⟨i12, j12⟩ := c12
  refine ⟨TV_keep (cap := 8) v_qrf (KS 6 (by first | decide | omega) (by first | decide | omega) (by first | decide | omega)) (by omega) (fun i q1 q2 => (KS i (by omega) (by omega) (by omega))), TV_keep (cap := 12) v_qmf (KS 8 (by first | decide | omega) (by first | decide | omega) (by first | decide | omega)) (by omega) (fun i q1 q2 => (KS i (by omega) (by omega) (by omega))), TV_keep (cap := 6) v_qwf (KS 10 (by first | decide | omega) (by first | decide | omega) (by first | decide | omega)) (by omega) (fun i q1 q2 => (KS i (by omega) (by omega) (by omega))), (fun k hk => by rw [(KS 12 (by first | decide | omega) (by first | decide | omega) (by first | decide | omega))] at hk; rw [(KS (126 + k) (by omega) (by omega) (by omega)), (KS 2 (by first | decide | omega) (by first | decide | omega) (by first | decide | omega))]; exact v_qpf k hk), (fun q j hj => by rw [(KS 15 (by first | decide | omega) (by first | decide | omega) (by first | decide | omega))] at q; rw [(KS j (by omega) (by omega) (by omega))]; exact v_qhnf q j hj), TV_keep (cap := 4) v_qhtf (KS 7 (by first | decide | omega) (by first | decide | omega) (by first | decide | omega)) (by omega) (fun i q1 q2 => (KS i (by omega) (by omega) (by omega))), TV_keep (cap := 8) v_qhjf (KS 9 (by first | decide | omega) (by first | decide | omega) (by first | decide | omega)) (by omega) (fun i q1 q2 => (KS i (by omega) (by omega) (by omega))), (fun k hk => by rw [(KS 11 (by first | decide | omega) (by first | decide | omega) (by first | decide | omega))] at hk; rw [(KS (114 + 3 * k) (by omega) (by omega) (by omega)), (KS (114 + 3 * k + 2) (by omega) (by omega) (by omega)), (KS (114 + 3 * k + 1) (by omega) (by omega) (by omega))]; exact v_qhmf k hk), (fun q j hj => by rw [(KS 134 (by first | decide | omega) (by first | decide | omega) (by first | decide | omega))] at q; rw [(KS (134 + j) (by omega) (by omega) (by omega))]; exact v_qhbf q j hj), TV_keep (cap := 6) v_qhsf (KS 13 (by first | decide | omega) (by first | decide | omega) (by first | decide | omega)) (by omega) (fun i q1 q2 => (KS i (by omega) (by omega) (by omega))), ?_⟩
  refine TV_add (m := m) v_qhcf hm KX (fun i q1 q2 => KS i (by omega) (by omega) (by omega)) (fun i q => by rw [hg, upd_ne (by omega), upd_ne (by omega)]) (fun j hj => ?_)
  have hj' : j = 0 ∨ j = 1 := by omega
  rcases hj' with rfl | rfl
  · rw [Nat.add_zero, Nat.add_zero, KN0, hg, upd_ne (by omega), show 2 * m = m * 2 + 0 by omega, upd_at]
  · rw [KN1, hg, show 2 * m + 1 = m * 2 + 1 by omega, upd_at]
theorem HV_man {F G g qrf qmf qwf qpf qhnf qhtf qhjf qhmf qhbf qhsf qhcf : Nat → Int32} {x0 x1 x2 y1 : Int32} {m : Nat} (hV : HV F qrf qmf qwf qpf qhnf qhtf qhjf qhmf qhbf qhsf qhcf) (hF : FIv F) (c12 : IV (F 12) 0 8) (hm : (F 11).toInt = m) (lt : m < 4) (KX : (G 11).toInt = m + 1) (KS : ∀ i : Nat, i < 167 → i ≠ 11 → (i < 114 + 3 * m ∨ 114 + 3 * m + 3 ≤ i) → G i = F i) (KN0 : G (114 + 3 * m) = x0) (KN1 : G (114 + 3 * m + 1) = x1) (KN2 : G (114 + 3 * m + 2) = x2) (hy : x0 = 3 → y1 = x1) (hg : g = (upd (upd (upd qhmf (m * 3 + 0) x0) (m * 3 + 1) y1) (m * 3 + 2) x2)) : HV G qrf qmf qwf qpf qhnf qhtf qhjf g qhbf qhsf qhcf := by
  obtain ⟨v_qrf, v_qmf, v_qwf, v_qpf, v_qhnf, v_qhtf, v_qhjf, v_qhmf, v_qhbf, v_qhsf, v_qhcf⟩ := hV
  obtain ⟨⟨i6, j6⟩, ⟨i7, j7⟩, ⟨i8, j8⟩, ⟨i9, j9⟩, ⟨i10, j10⟩, ⟨i11, j11⟩, ⟨i13, j13⟩, ⟨i14, j14⟩⟩ := hF
  obtain ⟨i12, j12⟩ := c12
  refine ⟨TV_keep (cap := 8) v_qrf (KS 6 (by first | decide | omega) (by first | decide | omega) (by first | decide | omega)) (by omega) (fun i q1 q2 => (KS i (by omega) (by omega) (by omega))), TV_keep (cap := 12) v_qmf (KS 8 (by first | decide | omega) (by first | decide | omega) (by first | decide | omega)) (by omega) (fun i q1 q2 => (KS i (by omega) (by omega) (by omega))), TV_keep (cap := 6) v_qwf (KS 10 (by first | decide | omega) (by first | decide | omega) (by first | decide | omega)) (by omega) (fun i q1 q2 => (KS i (by omega) (by omega) (by omega))), (fun k hk => by rw [(KS 12 (by first | decide | omega) (by first | decide | omega) (by first | decide | omega))] at hk; rw [(KS (126 + k) (by omega) (by omega) (by omega)), (KS 2 (by first | decide | omega) (by first | decide | omega) (by first | decide | omega))]; exact v_qpf k hk), (fun q j hj => by rw [(KS 15 (by first | decide | omega) (by first | decide | omega) (by first | decide | omega))] at q; rw [(KS j (by omega) (by omega) (by omega))]; exact v_qhnf q j hj), TV_keep (cap := 4) v_qhtf (KS 7 (by first | decide | omega) (by first | decide | omega) (by first | decide | omega)) (by omega) (fun i q1 q2 => (KS i (by omega) (by omega) (by omega))), TV_keep (cap := 8) v_qhjf (KS 9 (by first | decide | omega) (by first | decide | omega) (by first | decide | omega)) (by omega) (fun i q1 q2 => (KS i (by omega) (by omega) (by omega))), ?_, (fun q j hj => by rw [(KS 134 (by first | decide | omega) (by first | decide | omega) (by first | decide | omega))] at q; rw [(KS (134 + j) (by omega) (by omega) (by omega))]; exact v_qhbf q j hj), TV_keep (cap := 6) v_qhsf (KS 13 (by first | decide | omega) (by first | decide | omega) (by first | decide | omega)) (by omega) (fun i q1 q2 => (KS i (by omega) (by omega) (by omega))), TV_keep (cap := 6) v_qhcf (KS 14 (by first | decide | omega) (by first | decide | omega) (by first | decide | omega)) (by omega) (fun i q1 q2 => (KS i (by omega) (by omega) (by omega)))⟩
  intro k hk
  by_cases q : k = m
  · subst q
    rw [KN0, KN1, KN2, hg]
    refine ⟨?_, ?_, fun z => ?_⟩
    · rw [upd_ne (by omega), upd_ne (by omega), show 3 * k = k * 3 + 0 by omega, upd_at]
    · rw [show 3 * k + 2 = k * 3 + 2 by omega, upd_at]
    · rw [upd_ne (by omega), show 3 * k + 1 = k * 3 + 1 by omega, upd_at]; exact hy z
  · rw [KS (114 + 3 * k) (by omega) (by omega) (by omega), KS (114 + 3 * k + 2) (by omega) (by omega) (by omega), KS (114 + 3 * k + 1) (by omega) (by omega) (by omega), hg, upd_ne (by omega), upd_ne (by omega), upd_ne (by omega), upd_ne (by omega), upd_ne (by omega), upd_ne (by omega), upd_ne (by omega), upd_ne (by omega), upd_ne (by omega)]
    exact v_qhmf k (by omega)
theorem upd3_0 {f : Nat → Int32} {x y z : Int32} : upd (upd (upd f ((0 : Int).toNat * 3 + 0) x) ((0 : Int).toNat * 3 + 1) y) ((0 : Int).toNat * 3 + 2) z 0 = x := by
  rw [show (0 : Int).toNat = 0 from rfl, upd_ne (by omega), upd_ne (by omega)]
  exact upd_at
theorem upd3_1 {f : Nat → Int32} {x y z : Int32} : upd (upd (upd f ((0 : Int).toNat * 3 + 0) x) ((0 : Int).toNat * 3 + 1) y) ((0 : Int).toNat * 3 + 2) z 1 = y := by
  rw [show (0 : Int).toNat = 0 from rfl, upd_ne (by omega)]
  exact upd_at
theorem upd3_2 {f : Nat → Int32} {x y z : Int32} : upd (upd (upd f ((0 : Int).toNat * 3 + 0) x) ((0 : Int).toNat * 3 + 1) y) ((0 : Int).toNat * 3 + 2) z 2 = z := by
  rw [show (0 : Int).toNat = 0 from rfl]
  exact upd_at
theorem HV_boys {F G g qrf qmf qwf qpf qhnf qhtf qhjf qhmf qhbf qhsf qhcf : Nat → Int32}  (hV : HV F qrf qmf qwf qpf qhnf qhtf qhjf qhmf qhbf qhsf qhcf) (hF : FIv F) (c12 : IV (F 12) 0 8) (KS : ∀ i : Nat, i < 167 → (i < 134 ∨ 136 < i) → G i = F i) (k0 : g 0 = G 134) (k1 : g 1 = G 135) (k2 : g 2 = G 136) : HV G qrf qmf qwf qpf qhnf qhtf qhjf qhmf g qhsf qhcf := by
  obtain ⟨v_qrf, v_qmf, v_qwf, v_qpf, v_qhnf, v_qhtf, v_qhjf, v_qhmf, v_qhbf, v_qhsf, v_qhcf⟩ := hV
  obtain ⟨⟨i6, j6⟩, ⟨i7, j7⟩, ⟨i8, j8⟩, ⟨i9, j9⟩, ⟨i10, j10⟩, ⟨i11, j11⟩, ⟨i13, j13⟩, ⟨i14, j14⟩⟩ := hF
  obtain ⟨i12, j12⟩ := c12
  exact ⟨TV_keep (cap := 8) v_qrf (KS 6 (by first | decide | omega) (by first | decide | omega)) (by omega) (fun i q1 q2 => (KS i (by omega) (by omega))), TV_keep (cap := 12) v_qmf (KS 8 (by first | decide | omega) (by first | decide | omega)) (by omega) (fun i q1 q2 => (KS i (by omega) (by omega))), TV_keep (cap := 6) v_qwf (KS 10 (by first | decide | omega) (by first | decide | omega)) (by omega) (fun i q1 q2 => (KS i (by omega) (by omega))), (fun k hk => by rw [(KS 12 (by first | decide | omega) (by first | decide | omega))] at hk; rw [(KS (126 + k) (by omega) (by omega)), (KS 2 (by first | decide | omega) (by first | decide | omega))]; exact v_qpf k hk), (fun q j hj => by rw [(KS 15 (by first | decide | omega) (by first | decide | omega))] at q; rw [(KS j (by omega) (by omega))]; exact v_qhnf q j hj), TV_keep (cap := 4) v_qhtf (KS 7 (by first | decide | omega) (by first | decide | omega)) (by omega) (fun i q1 q2 => (KS i (by omega) (by omega))), TV_keep (cap := 8) v_qhjf (KS 9 (by first | decide | omega) (by first | decide | omega)) (by omega) (fun i q1 q2 => (KS i (by omega) (by omega))), (fun k hk => by rw [(KS 11 (by first | decide | omega) (by first | decide | omega))] at hk; rw [(KS (114 + 3 * k) (by omega) (by omega)), (KS (114 + 3 * k + 2) (by omega) (by omega)), (KS (114 + 3 * k + 1) (by omega) (by omega))]; exact v_qhmf k hk), (fun _ j hj => by rcases (show j = 0 ∨ j = 1 ∨ j = 2 by omega) with rfl | rfl | rfl; exact k0; exact k1; exact k2), TV_keep (cap := 6) v_qhsf (KS 13 (by first | decide | omega) (by first | decide | omega)) (by omega) (fun i q1 q2 => (KS i (by omega) (by omega))), TV_keep (cap := 6) v_qhcf (KS 14 (by first | decide | omega) (by first | decide | omega)) (by omega) (fun i q1 q2 => (KS i (by omega) (by omega)))⟩
theorem HV_shows {F G g qrf qmf qwf qpf qhnf qhtf qhjf qhmf qhbf qhsf qhcf : Nat → Int32}  (hV : HV F qrf qmf qwf qpf qhnf qhtf qhjf qhmf qhbf qhsf qhcf) (hF : FIv F) (c12 : IV (F 12) 0 8) (KS : ∀ i : Nat, i < 167 → i ≠ 12 → (i < 126 ∨ 133 < i) → G i = F i) (k0 : ∀ k : Nat, (k : Int) < (G 12).toInt → g (2 * k) = G (126 + k) ∧ g (2 * k + 1) = G 2) : HV G qrf qmf qwf g qhnf qhtf qhjf qhmf qhbf qhsf qhcf := by
  obtain ⟨v_qrf, v_qmf, v_qwf, v_qpf, v_qhnf, v_qhtf, v_qhjf, v_qhmf, v_qhbf, v_qhsf, v_qhcf⟩ := hV
  obtain ⟨⟨i6, j6⟩, ⟨i7, j7⟩, ⟨i8, j8⟩, ⟨i9, j9⟩, ⟨i10, j10⟩, ⟨i11, j11⟩, ⟨i13, j13⟩, ⟨i14, j14⟩⟩ := hF
  obtain ⟨i12, j12⟩ := c12
  exact ⟨TV_keep (cap := 8) v_qrf (KS 6 (by first | decide | omega) (by first | decide | omega) (by first | decide | omega)) (by omega) (fun i q1 q2 => (KS i (by omega) (by omega) (by omega))), TV_keep (cap := 12) v_qmf (KS 8 (by first | decide | omega) (by first | decide | omega) (by first | decide | omega)) (by omega) (fun i q1 q2 => (KS i (by omega) (by omega) (by omega))), TV_keep (cap := 6) v_qwf (KS 10 (by first | decide | omega) (by first | decide | omega) (by first | decide | omega)) (by omega) (fun i q1 q2 => (KS i (by omega) (by omega) (by omega))), k0, (fun q j hj => by rw [(KS 15 (by first | decide | omega) (by first | decide | omega) (by first | decide | omega))] at q; rw [(KS j (by omega) (by omega) (by omega))]; exact v_qhnf q j hj), TV_keep (cap := 4) v_qhtf (KS 7 (by first | decide | omega) (by first | decide | omega) (by first | decide | omega)) (by omega) (fun i q1 q2 => (KS i (by omega) (by omega) (by omega))), TV_keep (cap := 8) v_qhjf (KS 9 (by first | decide | omega) (by first | decide | omega) (by first | decide | omega)) (by omega) (fun i q1 q2 => (KS i (by omega) (by omega) (by omega))), (fun k hk => by rw [(KS 11 (by first | decide | omega) (by first | decide | omega) (by first | decide | omega))] at hk; rw [(KS (114 + 3 * k) (by omega) (by omega) (by omega)), (KS (114 + 3 * k + 2) (by omega) (by omega) (by omega)), (KS (114 + 3 * k + 1) (by omega) (by omega) (by omega))]; exact v_qhmf k hk), (fun q j hj => by rw [(KS 134 (by first | decide | omega) (by first | decide | omega) (by first | decide | omega))] at q; rw [(KS (134 + j) (by omega) (by omega) (by omega))]; exact v_qhbf q j hj), TV_keep (cap := 6) v_qhsf (KS 13 (by first | decide | omega) (by first | decide | omega) (by first | decide | omega)) (by omega) (fun i q1 q2 => (KS i (by omega) (by omega) (by omega))), TV_keep (cap := 6) v_qhcf (KS 14 (by first | decide | omega) (by first | decide | omega) (by first | decide | omega)) (by omega) (fun i q1 q2 => (KS i (by omega) (by omega) (by omega)))⟩
