set_option maxRecDepth 100000
set_option maxHeartbeats 4000000
def VRe (F : Nat → Int32) (k : Nat) : Prop := IV (F (16 + 3 * k)) 2 2000 ∧ 0 ≤ (F (16 + 3 * k + 1)).toInt ∧ (F (16 + 3 * k + 1)).toInt < (F (16 + 3 * k)).toInt ∧ (F (16 + 3 * k)).toInt ≤ (F (16 + 3 * k + 2)).toInt ∧ (F (16 + 3 * k + 2)).toInt ≤ 2000
def VFr (F : Nat → Int32) (b : Nat) : Prop := 0 ≤ (F (b + 1)).toInt ∧ (F (b + 1)).toInt < (F (16 + 3 * (F b).toInt.toNat)).toInt
def VSi (F : Nat → Int32) (k : Nat) : Prop := 1 ≤ (F (137 + 3 * k)).toInt ∧ (F (137 + 3 * k)).toInt < (F 12).toInt ∧ IV (F (137 + 3 * k + 1)) 0 9999 ∧ IV (F (137 + 3 * k + 2)) 0 9999
def T2 (F : Nat → Int32) : Prop := (F 12).toInt = 0 ∨ 2 ≤ (F 12).toInt
def U3 (F : Nat → Int32) : Prop := ∀ i j : Nat, (i : Int) < (F 8).toInt → (j : Int) < (F 8).toInt → F (44 + 3 * i) = F (44 + 3 * j) → F (44 + 3 * i + 2) = F (44 + 3 * j + 2) → i = j
def VB (F : Nat → Int32) : Prop :=
  (IV (F 0) 0 50 ∧ IV (F 1) 0 50 ∧ IV (F 2) 0 99 ∧ IV (F 3) 0 9999 ∧ IV (F 4) 0 999 ∧ IV (F 5) 0 999) ∧ (IV (F 134) 0 4 ∧ IV (F 135) 0 2000 ∧ IV (F 136) 0 50 ∧ T2 F) ∧
  (∀ k : Nat, (k : Int) < (F 6).toInt → VRe F k) ∧ (∀ k : Nat, (k : Int) < (F 7).toInt → IV (F (40 + k)) 1 9) ∧ (∀ k : Nat, (k : Int) < (F 8).toInt → VFr F (44 + 3 * k)) ∧ (∀ k : Nat, (k : Int) < (F 9).toInt → IV (F (80 + 2 * k + 1)) 1 99) ∧
  (∀ k : Nat, (k : Int) < (F 10).toInt → VFr F (96 + 3 * k) ∧ IV (F (96 + 3 * k + 2)) 1 99) ∧ (∀ k : Nat, (k : Int) < (F 11).toInt → IV (F (114 + 3 * k)) 0 3 ∧ IV (F (114 + 3 * k + 2)) 0 40) ∧ (∀ k : Nat, (k : Int) < (F 13).toInt → VSi F k) ∧ (∀ k : Nat, (k : Int) < (F 14).toInt → VFr F (155 + 2 * k)) ∧ U3 F
theorem num_b {T : Nat → Int32} {n lo hi a : Int32} {v : Int32 × Int32} (h : numS T n lo hi a = .inr v) : lo.toInt ≤ v.1.toInt ∧ v.1.toInt ≤ hi.toInt := by
  obtain ⟨h1, h2⟩ := num_lo h
  rw [lt_I] at h1 h2
  exact ⟨by omega, by omega⟩
theorem numH_b {T : Nat → Int32} {n lo hi a : Int32} {v : Int32} (h : numH T n lo hi a = .inr v) : lo.toInt ≤ v.toInt ∧ v.toInt ≤ hi.toInt :=
  num_b (v := (v, nx T n a)) (by unfold numS; rw [h, bnd_r])
theorem aft_b {T : Nat → Int32} {n lo hi a : Int32} {w : String} {v : Int32 × Int32} (h : aftS T n w lo hi a = .inr v) : lo.toInt ≤ v.1.toInt ∧ v.1.toInt ≤ hi.toInt := by
  rw [aft_def] at h
  obtain ⟨b, -, h⟩ := bnd_i h
  exact num_b h
theorem once_i {F T : Nat → Int32} {n x a b : Int32} (h : onceS F T n (bpos x) a = .inr b) : x.toInt ≤ 0 := by
  by_cases q : x ≤ 0
  · rw [le_I, zI] at q; exact q
  · rw [once_1 q] at h; cases h
theorem sub1I {x : Int32} {a b : Int} (h : IV x a b) (ha : 0 ≤ a) (hb : b ≤ 100000) : (x - 1).toInt = x.toInt - 1 := by
  rw [IV] at h
  rw [subI (by rw [oneI]; omega) (by rw [oneI]; omega), oneI]
theorem shG_2 {T : Nat → Int32} {n : Int32} : ∀ (f m : Nat) (Fm : Nat → Int32) (a : Int32) (v : (Nat → Int32) × Int32), m ≤ 8 → showG T n f m Fm a = .inr v → 2 ≤ (v.1 12).toInt := by
  intro f
  induction f with
  | zero => intro m Fm a v _ h; rw [showG] at h; cases h
  | succ f ih =>
    intro m Fm a v hm h
    rw [showG] at h
    obtain ⟨r, hr, h⟩ := bnd_i h
    by_cases q8 : m = 8
    · rw [if_pos q8] at h; cases h
    rw [if_neg q8] at h
    by_cases q4 : tkF T n (nx T n a) = 4
    · rw [if_pos q4] at h
      exact ih (m + 1) _ _ v (by omega) h
    · rw [if_neg q4] at h
      unfold showE at h
      by_cases q2 : m + 1 < 2
      · rw [if_pos q2] at h
        split at h
        · cases h
        · split at h <;> cases h
      · rw [if_neg q2] at h
        have e := Sum.inr.inj h
        rw [← e]
        show 2 ≤ (upd (upd Fm (126 + m) r) 12 (nI (m + 1)) 12).toInt
        rw [upd_at, nIt (by omega)]
        omega
theorem VB_keep0 {F G : Nat → Int32} (hB : FIv F) (h12 : IV (F 12) 0 8) (hR : RV0 F) (hV : VB F) (KS : ∀ i : Nat, i < 167 → 5 < i → i ≠ 15 → G i = F i) (k0 : IV (G 0) 0 50 ∧ IV (G 1) 0 50 ∧ IV (G 2) 0 99 ∧ IV (G 3) 0 9999 ∧ IV (G 4) 0 999 ∧ IV (G 5) 0 999) : VB G := by
  obtain ⟨c1, c2, c3, c4, c5, c6, c7⟩ := hR
  obtain ⟨⟨a0, a1, a2, a3, a4, a5⟩, ⟨a7, a8, a9, a10⟩, v1, v2, v3, v4, v5, v6, v8, v9, vU⟩ := hV
  obtain ⟨⟨i6, j6⟩, ⟨i7, j7⟩, ⟨i8, j8⟩, ⟨i9, j9⟩, ⟨i10, j10⟩, ⟨i11, j11⟩, ⟨i13, j13⟩, ⟨i14, j14⟩⟩ := hB
  obtain ⟨i12, j12⟩ := h12
  refine ⟨k0, ⟨by rw [KS 134 (by first | decide | omega) (by first | decide | omega) (by first | decide | omega)]; exact a7, by rw [KS 135 (by first | decide | omega) (by first | decide | omega) (by first | decide | omega)]; exact a8, by rw [KS 136 (by first | decide | omega) (by first | decide | omega) (by first | decide | omega)]; exact a9, by unfold T2; rw [KS 12 (by first | decide | omega) (by first | decide | omega) (by first | decide | omega)]; exact a10⟩, fun k hk => ?_, fun k hk => ?_, fun k hk => ?_, fun k hk => ?_, fun k hk => ?_, fun k hk => ?_, fun k hk => ?_, fun k hk => ?_, fun x y hx hy e1 e2 => ?_⟩
  · have hk0 : (k : Int) < (F 6).toInt := by rw [KS 6 (by first | decide | omega) (by first | decide | omega) (by first | decide | omega)] at hk; exact hk
    have q := v1 k hk0
    unfold VRe at q ⊢
    rw [KS (16 + 3 * k) (by omega) (by omega) (by omega), KS (16 + 3 * k + 1) (by omega) (by omega) (by omega), KS (16 + 3 * k + 2) (by omega) (by omega) (by omega)]
    exact q
  · have hk0 : (k : Int) < (F 7).toInt := by rw [KS 7 (by first | decide | omega) (by first | decide | omega) (by first | decide | omega)] at hk; exact hk
    have q := v2 k hk0
    rw [KS (40 + k) (by omega) (by omega) (by omega)]
    exact q
  · have hk0 : (k : Int) < (F 8).toInt := by rw [KS 8 (by first | decide | omega) (by first | decide | omega) (by first | decide | omega)] at hk; exact hk
    have q := v3 k hk0
    have r1 := c1 k hk0
    unfold Lt at r1
    have r2 : (F (44 + 3 * k)).toInt.toNat < 8 := by omega
    have r3 : ((F (44 + 3 * k)).toInt.toNat : Int) < (F 6).toInt := by omega
    unfold VFr at q ⊢
    rw [KS (44 + 3 * k) (by omega) (by omega) (by omega), KS (44 + 3 * k + 1) (by omega) (by omega) (by omega), KS (16 + 3 * (F (44 + 3 * k)).toInt.toNat) (by omega) (by omega) (by omega)]
    exact q
  · have hk0 : (k : Int) < (F 9).toInt := by rw [KS 9 (by first | decide | omega) (by first | decide | omega) (by first | decide | omega)] at hk; exact hk
    have q := v4 k hk0
    rw [KS (80 + 2 * k + 1) (by omega) (by omega) (by omega)]
    exact q
  · have hk0 : (k : Int) < (F 10).toInt := by rw [KS 10 (by first | decide | omega) (by first | decide | omega) (by first | decide | omega)] at hk; exact hk
    have q := v5 k hk0
    have r1 := c4 k hk0
    unfold Lt at r1
    have r2 : (F (96 + 3 * k)).toInt.toNat < 8 := by omega
    have r3 : ((F (96 + 3 * k)).toInt.toNat : Int) < (F 6).toInt := by omega
    unfold VFr at q ⊢
    rw [KS (96 + 3 * k) (by omega) (by omega) (by omega), KS (96 + 3 * k + 1) (by omega) (by omega) (by omega), KS (96 + 3 * k + 2) (by omega) (by omega) (by omega), KS (16 + 3 * (F (96 + 3 * k)).toInt.toNat) (by omega) (by omega) (by omega)]
    exact q
  · have hk0 : (k : Int) < (F 11).toInt := by rw [KS 11 (by first | decide | omega) (by first | decide | omega) (by first | decide | omega)] at hk; exact hk
    have q := v6 k hk0
    rw [KS (114 + 3 * k) (by omega) (by omega) (by omega), KS (114 + 3 * k + 2) (by omega) (by omega) (by omega)]
    exact q
  · have hk0 : (k : Int) < (F 13).toInt := by rw [KS 13 (by first | decide | omega) (by first | decide | omega) (by first | decide | omega)] at hk; exact hk
    have q := v8 k hk0
    unfold VSi at q ⊢
    rw [KS (137 + 3 * k) (by omega) (by omega) (by omega), KS (137 + 3 * k + 1) (by omega) (by omega) (by omega), KS (137 + 3 * k + 2) (by omega) (by omega) (by omega), KS (12) (by omega) (by omega) (by omega)]
    exact q
  · have hk0 : (k : Int) < (F 14).toInt := by rw [KS 14 (by first | decide | omega) (by first | decide | omega) (by first | decide | omega)] at hk; exact hk
    have q := v9 k hk0
    have r1 := c6 k hk0
    unfold Lt at r1
    have r2 : (F (155 + 2 * k)).toInt.toNat < 8 := by omega
    have r3 : ((F (155 + 2 * k)).toInt.toNat : Int) < (F 6).toInt := by omega
    unfold VFr at q ⊢
    rw [KS (155 + 2 * k) (by omega) (by omega) (by omega), KS (155 + 2 * k + 1) (by omega) (by omega) (by omega), KS (16 + 3 * (F (155 + 2 * k)).toInt.toNat) (by omega) (by omega) (by omega)]
    exact q
  · rw [KS 8 (by first | decide | omega) (by first | decide | omega) (by first | decide | omega)] at hx hy
    rw [KS (44 + 3 * x) (by omega) (by omega) (by omega), KS (44 + 3 * y) (by omega) (by omega) (by omega)] at e1
    rw [KS (44 + 3 * x + 2) (by omega) (by omega) (by omega), KS (44 + 3 * y + 2) (by omega) (by omega) (by omega)] at e2
    exact vU x y hx hy e1 e2
theorem VB_reel {F G : Nat → Int32} {m : Nat} (hB : FIv F) (h12 : IV (F 12) 0 8) (hR : RV0 F) (hV : VB F) (hm : (F 6).toInt = m) (lt : m < 8) (KX : (G 6).toInt = m + 1) (KS : ∀ i : Nat, i < 167 → i ≠ 6 → (i < 16 + 3 * m ∨ 16 + 3 * m + 3 ≤ i) → G i = F i) (k1 : VRe G m) : VB G := by
  obtain ⟨c1, c2, c3, c4, c5, c6, c7⟩ := hR
  obtain ⟨⟨a0, a1, a2, a3, a4, a5⟩, ⟨a7, a8, a9, a10⟩, v1, v2, v3, v4, v5, v6, v8, v9, vU⟩ := hV
  obtain ⟨⟨i6, j6⟩, ⟨i7, j7⟩, ⟨i8, j8⟩, ⟨i9, j9⟩, ⟨i10, j10⟩, ⟨i11, j11⟩, ⟨i13, j13⟩, ⟨i14, j14⟩⟩ := hB
  obtain ⟨i12, j12⟩ := h12
  refine ⟨⟨by rw [KS 0 (by first | decide | omega) (by first | decide | omega) (by first | decide | omega)]; exact a0, by rw [KS 1 (by first | decide | omega) (by first | decide | omega) (by first | decide | omega)]; exact a1, by rw [KS 2 (by first | decide | omega) (by first | decide | omega) (by first | decide | omega)]; exact a2, by rw [KS 3 (by first | decide | omega) (by first | decide | omega) (by first | decide | omega)]; exact a3, by rw [KS 4 (by first | decide | omega) (by first | decide | omega) (by first | decide | omega)]; exact a4, by rw [KS 5 (by first | decide | omega) (by first | decide | omega) (by first | decide | omega)]; exact a5⟩, ⟨by rw [KS 134 (by first | decide | omega) (by first | decide | omega) (by first | decide | omega)]; exact a7, by rw [KS 135 (by first | decide | omega) (by first | decide | omega) (by first | decide | omega)]; exact a8, by rw [KS 136 (by first | decide | omega) (by first | decide | omega) (by first | decide | omega)]; exact a9, by unfold T2; rw [KS 12 (by first | decide | omega) (by first | decide | omega) (by first | decide | omega)]; exact a10⟩, fun k hk => ?_, fun k hk => ?_, fun k hk => ?_, fun k hk => ?_, fun k hk => ?_, fun k hk => ?_, fun k hk => ?_, fun k hk => ?_, fun x y hx hy e1 e2 => ?_⟩
  · by_cases w : k = m
    · subst w
      exact k1
    · have hk0 : (k : Int) < (F 6).toInt := by omega
      have q := v1 k hk0
      unfold VRe at q ⊢
      rw [KS (16 + 3 * k) (by omega) (by omega) (by omega), KS (16 + 3 * k + 1) (by omega) (by omega) (by omega), KS (16 + 3 * k + 2) (by omega) (by omega) (by omega)]
      exact q
  · have hk0 : (k : Int) < (F 7).toInt := by rw [KS 7 (by first | decide | omega) (by first | decide | omega) (by first | decide | omega)] at hk; exact hk
    have q := v2 k hk0
    rw [KS (40 + k) (by omega) (by omega) (by omega)]
    exact q
  · have hk0 : (k : Int) < (F 8).toInt := by rw [KS 8 (by first | decide | omega) (by first | decide | omega) (by first | decide | omega)] at hk; exact hk
    have q := v3 k hk0
    have r1 := c1 k hk0
    unfold Lt at r1
    have r2 : (F (44 + 3 * k)).toInt.toNat < 8 := by omega
    have r3 : ((F (44 + 3 * k)).toInt.toNat : Int) < (F 6).toInt := by omega
    unfold VFr at q ⊢
    rw [KS (44 + 3 * k) (by omega) (by omega) (by omega), KS (44 + 3 * k + 1) (by omega) (by omega) (by omega), KS (16 + 3 * (F (44 + 3 * k)).toInt.toNat) (by omega) (by omega) (by omega)]
    exact q
  · have hk0 : (k : Int) < (F 9).toInt := by rw [KS 9 (by first | decide | omega) (by first | decide | omega) (by first | decide | omega)] at hk; exact hk
    have q := v4 k hk0
    rw [KS (80 + 2 * k + 1) (by omega) (by omega) (by omega)]
    exact q
  · have hk0 : (k : Int) < (F 10).toInt := by rw [KS 10 (by first | decide | omega) (by first | decide | omega) (by first | decide | omega)] at hk; exact hk
    have q := v5 k hk0
    have r1 := c4 k hk0
    unfold Lt at r1
    have r2 : (F (96 + 3 * k)).toInt.toNat < 8 := by omega
    have r3 : ((F (96 + 3 * k)).toInt.toNat : Int) < (F 6).toInt := by omega
    unfold VFr at q ⊢
    rw [KS (96 + 3 * k) (by omega) (by omega) (by omega), KS (96 + 3 * k + 1) (by omega) (by omega) (by omega), KS (96 + 3 * k + 2) (by omega) (by omega) (by omega), KS (16 + 3 * (F (96 + 3 * k)).toInt.toNat) (by omega) (by omega) (by omega)]
    exact q
  · have hk0 : (k : Int) < (F 11).toInt := by rw [KS 11 (by first | decide | omega) (by first | decide | omega) (by first | decide | omega)] at hk; exact hk
    have q := v6 k hk0
    rw [KS (114 + 3 * k) (by omega) (by omega) (by omega), KS (114 + 3 * k + 2) (by omega) (by omega) (by omega)]
    exact q
  · have hk0 : (k : Int) < (F 13).toInt := by rw [KS 13 (by first | decide | omega) (by first | decide | omega) (by first | decide | omega)] at hk; exact hk
    have q := v8 k hk0
    unfold VSi at q ⊢
    rw [KS (137 + 3 * k) (by omega) (by omega) (by omega), KS (137 + 3 * k + 1) (by omega) (by omega) (by omega), KS (137 + 3 * k + 2) (by omega) (by omega) (by omega), KS (12) (by omega) (by omega) (by omega)]
    exact q
  · have hk0 : (k : Int) < (F 14).toInt := by rw [KS 14 (by first | decide | omega) (by first | decide | omega) (by first | decide | omega)] at hk; exact hk
    have q := v9 k hk0
    have r1 := c6 k hk0
    unfold Lt at r1
    have r2 : (F (155 + 2 * k)).toInt.toNat < 8 := by omega
    have r3 : ((F (155 + 2 * k)).toInt.toNat : Int) < (F 6).toInt := by omega
    unfold VFr at q ⊢
    rw [KS (155 + 2 * k) (by omega) (by omega) (by omega), KS (155 + 2 * k + 1) (by omega) (by omega) (by omega), KS (16 + 3 * (F (155 + 2 * k)).toInt.toNat) (by omega) (by omega) (by omega)]
    exact q
  · rw [KS 8 (by first | decide | omega) (by first | decide | omega) (by first | decide | omega)] at hx hy
    rw [KS (44 + 3 * x) (by omega) (by omega) (by omega), KS (44 + 3 * y) (by omega) (by omega) (by omega)] at e1
    rw [KS (44 + 3 * x + 2) (by omega) (by omega) (by omega), KS (44 + 3 * y + 2) (by omega) (by omega) (by omega)] at e2
    exact vU x y hx hy e1 e2
theorem VB_town {F G : Nat → Int32} {m : Nat} (hB : FIv F) (h12 : IV (F 12) 0 8) (hR : RV0 F) (hV : VB F) (hm : (F 7).toInt = m) (lt : m < 4) (KX : (G 7).toInt = m + 1) (KS : ∀ i : Nat, i < 167 → i ≠ 7 → i ≠ 40 + m → G i = F i) (k1 : IV (G (40 + m)) 1 9) : VB G := by
  obtain ⟨c1, c2, c3, c4, c5, c6, c7⟩ := hR
  obtain ⟨⟨a0, a1, a2, a3, a4, a5⟩, ⟨a7, a8, a9, a10⟩, v1, v2, v3, v4, v5, v6, v8, v9, vU⟩ := hV
  obtain ⟨⟨i6, j6⟩, ⟨i7, j7⟩, ⟨i8, j8⟩, ⟨i9, j9⟩, ⟨i10, j10⟩, ⟨i11, j11⟩, ⟨i13, j13⟩, ⟨i14, j14⟩⟩ := hB
  obtain ⟨i12, j12⟩ := h12
  refine ⟨⟨by rw [KS 0 (by first | decide | omega) (by first | decide | omega) (by first | decide | omega)]; exact a0, by rw [KS 1 (by first | decide | omega) (by first | decide | omega) (by first | decide | omega)]; exact a1, by rw [KS 2 (by first | decide | omega) (by first | decide | omega) (by first | decide | omega)]; exact a2, by rw [KS 3 (by first | decide | omega) (by first | decide | omega) (by first | decide | omega)]; exact a3, by rw [KS 4 (by first | decide | omega) (by first | decide | omega) (by first | decide | omega)]; exact a4, by rw [KS 5 (by first | decide | omega) (by first | decide | omega) (by first | decide | omega)]; exact a5⟩, ⟨by rw [KS 134 (by first | decide | omega) (by first | decide | omega) (by first | decide | omega)]; exact a7, by rw [KS 135 (by first | decide | omega) (by first | decide | omega) (by first | decide | omega)]; exact a8, by rw [KS 136 (by first | decide | omega) (by first | decide | omega) (by first | decide | omega)]; exact a9, by unfold T2; rw [KS 12 (by first | decide | omega) (by first | decide | omega) (by first | decide | omega)]; exact a10⟩, fun k hk => ?_, fun k hk => ?_, fun k hk => ?_, fun k hk => ?_, fun k hk => ?_, fun k hk => ?_, fun k hk => ?_, fun k hk => ?_, fun x y hx hy e1 e2 => ?_⟩
  · have hk0 : (k : Int) < (F 6).toInt := by rw [KS 6 (by first | decide | omega) (by first | decide | omega) (by first | decide | omega)] at hk; exact hk
    have q := v1 k hk0
    unfold VRe at q ⊢
    rw [KS (16 + 3 * k) (by omega) (by omega) (by omega), KS (16 + 3 * k + 1) (by omega) (by omega) (by omega), KS (16 + 3 * k + 2) (by omega) (by omega) (by omega)]
    exact q
  · by_cases w : k = m
    · subst w
      exact k1
    · have hk0 : (k : Int) < (F 7).toInt := by omega
      have q := v2 k hk0
      rw [KS (40 + k) (by omega) (by omega) (by omega)]
      exact q
  · have hk0 : (k : Int) < (F 8).toInt := by rw [KS 8 (by first | decide | omega) (by first | decide | omega) (by first | decide | omega)] at hk; exact hk
    have q := v3 k hk0
    have r1 := c1 k hk0
    unfold Lt at r1
    have r2 : (F (44 + 3 * k)).toInt.toNat < 8 := by omega
    have r3 : ((F (44 + 3 * k)).toInt.toNat : Int) < (F 6).toInt := by omega
    unfold VFr at q ⊢
    rw [KS (44 + 3 * k) (by omega) (by omega) (by omega), KS (44 + 3 * k + 1) (by omega) (by omega) (by omega), KS (16 + 3 * (F (44 + 3 * k)).toInt.toNat) (by omega) (by omega) (by omega)]
    exact q
  · have hk0 : (k : Int) < (F 9).toInt := by rw [KS 9 (by first | decide | omega) (by first | decide | omega) (by first | decide | omega)] at hk; exact hk
    have q := v4 k hk0
    rw [KS (80 + 2 * k + 1) (by omega) (by omega) (by omega)]
    exact q
  · have hk0 : (k : Int) < (F 10).toInt := by rw [KS 10 (by first | decide | omega) (by first | decide | omega) (by first | decide | omega)] at hk; exact hk
    have q := v5 k hk0
    have r1 := c4 k hk0
    unfold Lt at r1
    have r2 : (F (96 + 3 * k)).toInt.toNat < 8 := by omega
    have r3 : ((F (96 + 3 * k)).toInt.toNat : Int) < (F 6).toInt := by omega
    unfold VFr at q ⊢
    rw [KS (96 + 3 * k) (by omega) (by omega) (by omega), KS (96 + 3 * k + 1) (by omega) (by omega) (by omega), KS (96 + 3 * k + 2) (by omega) (by omega) (by omega), KS (16 + 3 * (F (96 + 3 * k)).toInt.toNat) (by omega) (by omega) (by omega)]
    exact q
  · have hk0 : (k : Int) < (F 11).toInt := by rw [KS 11 (by first | decide | omega) (by first | decide | omega) (by first | decide | omega)] at hk; exact hk
    have q := v6 k hk0
    rw [KS (114 + 3 * k) (by omega) (by omega) (by omega), KS (114 + 3 * k + 2) (by omega) (by omega) (by omega)]
    exact q
  · have hk0 : (k : Int) < (F 13).toInt := by rw [KS 13 (by first | decide | omega) (by first | decide | omega) (by first | decide | omega)] at hk; exact hk
    have q := v8 k hk0
    unfold VSi at q ⊢
    rw [KS (137 + 3 * k) (by omega) (by omega) (by omega), KS (137 + 3 * k + 1) (by omega) (by omega) (by omega), KS (137 + 3 * k + 2) (by omega) (by omega) (by omega), KS (12) (by omega) (by omega) (by omega)]
    exact q
  · have hk0 : (k : Int) < (F 14).toInt := by rw [KS 14 (by first | decide | omega) (by first | decide | omega) (by first | decide | omega)] at hk; exact hk
    have q := v9 k hk0
    have r1 := c6 k hk0
    unfold Lt at r1
    have r2 : (F (155 + 2 * k)).toInt.toNat < 8 := by omega
    have r3 : ((F (155 + 2 * k)).toInt.toNat : Int) < (F 6).toInt := by omega
    unfold VFr at q ⊢
    rw [KS (155 + 2 * k) (by omega) (by omega) (by omega), KS (155 + 2 * k + 1) (by omega) (by omega) (by omega), KS (16 + 3 * (F (155 + 2 * k)).toInt.toNat) (by omega) (by omega) (by omega)]
    exact q
  · rw [KS 8 (by first | decide | omega) (by first | decide | omega) (by first | decide | omega)] at hx hy
    rw [KS (44 + 3 * x) (by omega) (by omega) (by omega), KS (44 + 3 * y) (by omega) (by omega) (by omega)] at e1
    rw [KS (44 + 3 * x + 2) (by omega) (by omega) (by omega), KS (44 + 3 * y + 2) (by omega) (by omega) (by omega)] at e2
    exact vU x y hx hy e1 e2
theorem VB_mark {F G : Nat → Int32} {m : Nat} (hB : FIv F) (h12 : IV (F 12) 0 8) (hR : RV0 F) (hV : VB F) (hm : (F 8).toInt = m) (lt : m < 12) (KX : (G 8).toInt = m + 1) (KS : ∀ i : Nat, i < 167 → i ≠ 8 → (i < 44 + 3 * m ∨ 44 + 3 * m + 3 ≤ i) → G i = F i) (k1 : VFr G (44 + 3 * m)) (kU : ¬ Dup F 44 2 8 (G (44 + 3 * m)) (G (44 + 3 * m + 2))) : VB G := by
  obtain ⟨c1, c2, c3, c4, c5, c6, c7⟩ := hR
  obtain ⟨⟨a0, a1, a2, a3, a4, a5⟩, ⟨a7, a8, a9, a10⟩, v1, v2, v3, v4, v5, v6, v8, v9, vU⟩ := hV
  obtain ⟨⟨i6, j6⟩, ⟨i7, j7⟩, ⟨i8, j8⟩, ⟨i9, j9⟩, ⟨i10, j10⟩, ⟨i11, j11⟩, ⟨i13, j13⟩, ⟨i14, j14⟩⟩ := hB
  obtain ⟨i12, j12⟩ := h12
  refine ⟨⟨by rw [KS 0 (by first | decide | omega) (by first | decide | omega) (by first | decide | omega)]; exact a0, by rw [KS 1 (by first | decide | omega) (by first | decide | omega) (by first | decide | omega)]; exact a1, by rw [KS 2 (by first | decide | omega) (by first | decide | omega) (by first | decide | omega)]; exact a2, by rw [KS 3 (by first | decide | omega) (by first | decide | omega) (by first | decide | omega)]; exact a3, by rw [KS 4 (by first | decide | omega) (by first | decide | omega) (by first | decide | omega)]; exact a4, by rw [KS 5 (by first | decide | omega) (by first | decide | omega) (by first | decide | omega)]; exact a5⟩, ⟨by rw [KS 134 (by first | decide | omega) (by first | decide | omega) (by first | decide | omega)]; exact a7, by rw [KS 135 (by first | decide | omega) (by first | decide | omega) (by first | decide | omega)]; exact a8, by rw [KS 136 (by first | decide | omega) (by first | decide | omega) (by first | decide | omega)]; exact a9, by unfold T2; rw [KS 12 (by first | decide | omega) (by first | decide | omega) (by first | decide | omega)]; exact a10⟩, fun k hk => ?_, fun k hk => ?_, fun k hk => ?_, fun k hk => ?_, fun k hk => ?_, fun k hk => ?_, fun k hk => ?_, fun k hk => ?_, fun x y hx hy e1 e2 => ?_⟩
  · have hk0 : (k : Int) < (F 6).toInt := by rw [KS 6 (by first | decide | omega) (by first | decide | omega) (by first | decide | omega)] at hk; exact hk
    have q := v1 k hk0
    unfold VRe at q ⊢
    rw [KS (16 + 3 * k) (by omega) (by omega) (by omega), KS (16 + 3 * k + 1) (by omega) (by omega) (by omega), KS (16 + 3 * k + 2) (by omega) (by omega) (by omega)]
    exact q
  · have hk0 : (k : Int) < (F 7).toInt := by rw [KS 7 (by first | decide | omega) (by first | decide | omega) (by first | decide | omega)] at hk; exact hk
    have q := v2 k hk0
    rw [KS (40 + k) (by omega) (by omega) (by omega)]
    exact q
  · by_cases w : k = m
    · subst w
      exact k1
    · have hk0 : (k : Int) < (F 8).toInt := by omega
      have q := v3 k hk0
      have r1 := c1 k hk0
      unfold Lt at r1
      have r2 : (F (44 + 3 * k)).toInt.toNat < 8 := by omega
      have r3 : ((F (44 + 3 * k)).toInt.toNat : Int) < (F 6).toInt := by omega
      unfold VFr at q ⊢
      rw [KS (44 + 3 * k) (by omega) (by omega) (by omega), KS (44 + 3 * k + 1) (by omega) (by omega) (by omega), KS (16 + 3 * (F (44 + 3 * k)).toInt.toNat) (by omega) (by omega) (by omega)]
      exact q
  · have hk0 : (k : Int) < (F 9).toInt := by rw [KS 9 (by first | decide | omega) (by first | decide | omega) (by first | decide | omega)] at hk; exact hk
    have q := v4 k hk0
    rw [KS (80 + 2 * k + 1) (by omega) (by omega) (by omega)]
    exact q
  · have hk0 : (k : Int) < (F 10).toInt := by rw [KS 10 (by first | decide | omega) (by first | decide | omega) (by first | decide | omega)] at hk; exact hk
    have q := v5 k hk0
    have r1 := c4 k hk0
    unfold Lt at r1
    have r2 : (F (96 + 3 * k)).toInt.toNat < 8 := by omega
    have r3 : ((F (96 + 3 * k)).toInt.toNat : Int) < (F 6).toInt := by omega
    unfold VFr at q ⊢
    rw [KS (96 + 3 * k) (by omega) (by omega) (by omega), KS (96 + 3 * k + 1) (by omega) (by omega) (by omega), KS (96 + 3 * k + 2) (by omega) (by omega) (by omega), KS (16 + 3 * (F (96 + 3 * k)).toInt.toNat) (by omega) (by omega) (by omega)]
    exact q
  · have hk0 : (k : Int) < (F 11).toInt := by rw [KS 11 (by first | decide | omega) (by first | decide | omega) (by first | decide | omega)] at hk; exact hk
    have q := v6 k hk0
    rw [KS (114 + 3 * k) (by omega) (by omega) (by omega), KS (114 + 3 * k + 2) (by omega) (by omega) (by omega)]
    exact q
  · have hk0 : (k : Int) < (F 13).toInt := by rw [KS 13 (by first | decide | omega) (by first | decide | omega) (by first | decide | omega)] at hk; exact hk
    have q := v8 k hk0
    unfold VSi at q ⊢
    rw [KS (137 + 3 * k) (by omega) (by omega) (by omega), KS (137 + 3 * k + 1) (by omega) (by omega) (by omega), KS (137 + 3 * k + 2) (by omega) (by omega) (by omega), KS (12) (by omega) (by omega) (by omega)]
    exact q
  · have hk0 : (k : Int) < (F 14).toInt := by rw [KS 14 (by first | decide | omega) (by first | decide | omega) (by first | decide | omega)] at hk; exact hk
    have q := v9 k hk0
    have r1 := c6 k hk0
    unfold Lt at r1
    have r2 : (F (155 + 2 * k)).toInt.toNat < 8 := by omega
    have r3 : ((F (155 + 2 * k)).toInt.toNat : Int) < (F 6).toInt := by omega
    unfold VFr at q ⊢
    rw [KS (155 + 2 * k) (by omega) (by omega) (by omega), KS (155 + 2 * k + 1) (by omega) (by omega) (by omega), KS (16 + 3 * (F (155 + 2 * k)).toInt.toNat) (by omega) (by omega) (by omega)]
    exact q
  · have key : ∀ z : Nat, z < m → F (44 + 3 * z) = G (44 + 3 * m) → F (44 + 3 * z + 2) = G (44 + 3 * m + 2) → False := fun z hz w1 w2 => kU ⟨z, by omega, w1, w2⟩
    have g1 : ∀ z : Nat, z < m → G (44 + 3 * z) = F (44 + 3 * z) := fun z hz => KS _ (by omega) (by omega) (by omega)
    have g2 : ∀ z : Nat, z < m → G (44 + 3 * z + 2) = F (44 + 3 * z + 2) := fun z hz => KS _ (by omega) (by omega) (by omega)
    by_cases w1 : x = m
    · by_cases w2 : y = m
      · omega
      · subst w1
        rw [g1 y (by omega)] at e1
        rw [g2 y (by omega)] at e2
        exact (key y (by omega) e1.symm e2.symm).elim
    · by_cases w2 : y = m
      · subst w2
        rw [g1 x (by omega)] at e1
        rw [g2 x (by omega)] at e2
        exact (key x (by omega) e1 e2).elim
      · rw [g1 x (by omega), g1 y (by omega)] at e1
        rw [g2 x (by omega), g2 y (by omega)] at e2
        exact vU x y (by omega) (by omega) e1 e2
theorem VB_join {F G : Nat → Int32} {m : Nat} (hB : FIv F) (h12 : IV (F 12) 0 8) (hR : RV0 F) (hV : VB F) (hm : (F 9).toInt = m) (lt : m < 8) (KX : (G 9).toInt = m + 1) (KS : ∀ i : Nat, i < 167 → i ≠ 9 → (i < 80 + 2 * m ∨ 80 + 2 * m + 2 ≤ i) → G i = F i) (k1 : IV (G (80 + 2 * m + 1)) 1 99) : VB G := by
  obtain ⟨c1, c2, c3, c4, c5, c6, c7⟩ := hR
  obtain ⟨⟨a0, a1, a2, a3, a4, a5⟩, ⟨a7, a8, a9, a10⟩, v1, v2, v3, v4, v5, v6, v8, v9, vU⟩ := hV
  obtain ⟨⟨i6, j6⟩, ⟨i7, j7⟩, ⟨i8, j8⟩, ⟨i9, j9⟩, ⟨i10, j10⟩, ⟨i11, j11⟩, ⟨i13, j13⟩, ⟨i14, j14⟩⟩ := hB
  obtain ⟨i12, j12⟩ := h12
  refine ⟨⟨by rw [KS 0 (by first | decide | omega) (by first | decide | omega) (by first | decide | omega)]; exact a0, by rw [KS 1 (by first | decide | omega) (by first | decide | omega) (by first | decide | omega)]; exact a1, by rw [KS 2 (by first | decide | omega) (by first | decide | omega) (by first | decide | omega)]; exact a2, by rw [KS 3 (by first | decide | omega) (by first | decide | omega) (by first | decide | omega)]; exact a3, by rw [KS 4 (by first | decide | omega) (by first | decide | omega) (by first | decide | omega)]; exact a4, by rw [KS 5 (by first | decide | omega) (by first | decide | omega) (by first | decide | omega)]; exact a5⟩, ⟨by rw [KS 134 (by first | decide | omega) (by first | decide | omega) (by first | decide | omega)]; exact a7, by rw [KS 135 (by first | decide | omega) (by first | decide | omega) (by first | decide | omega)]; exact a8, by rw [KS 136 (by first | decide | omega) (by first | decide | omega) (by first | decide | omega)]; exact a9, by unfold T2; rw [KS 12 (by first | decide | omega) (by first | decide | omega) (by first | decide | omega)]; exact a10⟩, fun k hk => ?_, fun k hk => ?_, fun k hk => ?_, fun k hk => ?_, fun k hk => ?_, fun k hk => ?_, fun k hk => ?_, fun k hk => ?_, fun x y hx hy e1 e2 => ?_⟩
  · have hk0 : (k : Int) < (F 6).toInt := by rw [KS 6 (by first | decide | omega) (by first | decide | omega) (by first | decide | omega)] at hk; exact hk
    have q := v1 k hk0
    unfold VRe at q ⊢
    rw [KS (16 + 3 * k) (by omega) (by omega) (by omega), KS (16 + 3 * k + 1) (by omega) (by omega) (by omega), KS (16 + 3 * k + 2) (by omega) (by omega) (by omega)]
    exact q
  · have hk0 : (k : Int) < (F 7).toInt := by rw [KS 7 (by first | decide | omega) (by first | decide | omega) (by first | decide | omega)] at hk; exact hk
    have q := v2 k hk0
    rw [KS (40 + k) (by omega) (by omega) (by omega)]
    exact q
  · have hk0 : (k : Int) < (F 8).toInt := by rw [KS 8 (by first | decide | omega) (by first | decide | omega) (by first | decide | omega)] at hk; exact hk
    have q := v3 k hk0
    have r1 := c1 k hk0
    unfold Lt at r1
    have r2 : (F (44 + 3 * k)).toInt.toNat < 8 := by omega
    have r3 : ((F (44 + 3 * k)).toInt.toNat : Int) < (F 6).toInt := by omega
    unfold VFr at q ⊢
    rw [KS (44 + 3 * k) (by omega) (by omega) (by omega), KS (44 + 3 * k + 1) (by omega) (by omega) (by omega), KS (16 + 3 * (F (44 + 3 * k)).toInt.toNat) (by omega) (by omega) (by omega)]
    exact q
  · by_cases w : k = m
    · subst w
      exact k1
    · have hk0 : (k : Int) < (F 9).toInt := by omega
      have q := v4 k hk0
      rw [KS (80 + 2 * k + 1) (by omega) (by omega) (by omega)]
      exact q
  · have hk0 : (k : Int) < (F 10).toInt := by rw [KS 10 (by first | decide | omega) (by first | decide | omega) (by first | decide | omega)] at hk; exact hk
    have q := v5 k hk0
    have r1 := c4 k hk0
    unfold Lt at r1
    have r2 : (F (96 + 3 * k)).toInt.toNat < 8 := by omega
    have r3 : ((F (96 + 3 * k)).toInt.toNat : Int) < (F 6).toInt := by omega
    unfold VFr at q ⊢
    rw [KS (96 + 3 * k) (by omega) (by omega) (by omega), KS (96 + 3 * k + 1) (by omega) (by omega) (by omega), KS (96 + 3 * k + 2) (by omega) (by omega) (by omega), KS (16 + 3 * (F (96 + 3 * k)).toInt.toNat) (by omega) (by omega) (by omega)]
    exact q
  · have hk0 : (k : Int) < (F 11).toInt := by rw [KS 11 (by first | decide | omega) (by first | decide | omega) (by first | decide | omega)] at hk; exact hk
    have q := v6 k hk0
    rw [KS (114 + 3 * k) (by omega) (by omega) (by omega), KS (114 + 3 * k + 2) (by omega) (by omega) (by omega)]
    exact q
  · have hk0 : (k : Int) < (F 13).toInt := by rw [KS 13 (by first | decide | omega) (by first | decide | omega) (by first | decide | omega)] at hk; exact hk
    have q := v8 k hk0
    unfold VSi at q ⊢
    rw [KS (137 + 3 * k) (by omega) (by omega) (by omega), KS (137 + 3 * k + 1) (by omega) (by omega) (by omega), KS (137 + 3 * k + 2) (by omega) (by omega) (by omega), KS (12) (by omega) (by omega) (by omega)]
    exact q
  · have hk0 : (k : Int) < (F 14).toInt := by rw [KS 14 (by first | decide | omega) (by first | decide | omega) (by first | decide | omega)] at hk; exact hk
    have q := v9 k hk0
    have r1 := c6 k hk0
    unfold Lt at r1
    have r2 : (F (155 + 2 * k)).toInt.toNat < 8 := by omega
    have r3 : ((F (155 + 2 * k)).toInt.toNat : Int) < (F 6).toInt := by omega
    unfold VFr at q ⊢
    rw [KS (155 + 2 * k) (by omega) (by omega) (by omega), KS (155 + 2 * k + 1) (by omega) (by omega) (by omega), KS (16 + 3 * (F (155 + 2 * k)).toInt.toNat) (by omega) (by omega) (by omega)]
    exact q
  · rw [KS 8 (by first | decide | omega) (by first | decide | omega) (by first | decide | omega)] at hx hy
    rw [KS (44 + 3 * x) (by omega) (by omega) (by omega), KS (44 + 3 * y) (by omega) (by omega) (by omega)] at e1
    rw [KS (44 + 3 * x + 2) (by omega) (by omega) (by omega), KS (44 + 3 * y + 2) (by omega) (by omega) (by omega)] at e2
    exact vU x y hx hy e1 e2
theorem VB_weak {F G : Nat → Int32} {m : Nat} (hB : FIv F) (h12 : IV (F 12) 0 8) (hR : RV0 F) (hV : VB F) (hm : (F 10).toInt = m) (lt : m < 6) (KX : (G 10).toInt = m + 1) (KS : ∀ i : Nat, i < 167 → i ≠ 10 → (i < 96 + 3 * m ∨ 96 + 3 * m + 3 ≤ i) → G i = F i) (k1 : VFr G (96 + 3 * m)) (k2 : IV (G (96 + 3 * m + 2)) 1 99) : VB G := by
  obtain ⟨c1, c2, c3, c4, c5, c6, c7⟩ := hR
  obtain ⟨⟨a0, a1, a2, a3, a4, a5⟩, ⟨a7, a8, a9, a10⟩, v1, v2, v3, v4, v5, v6, v8, v9, vU⟩ := hV
  obtain ⟨⟨i6, j6⟩, ⟨i7, j7⟩, ⟨i8, j8⟩, ⟨i9, j9⟩, ⟨i10, j10⟩, ⟨i11, j11⟩, ⟨i13, j13⟩, ⟨i14, j14⟩⟩ := hB
  obtain ⟨i12, j12⟩ := h12
  refine ⟨⟨by rw [KS 0 (by first | decide | omega) (by first | decide | omega) (by first | decide | omega)]; exact a0, by rw [KS 1 (by first | decide | omega) (by first | decide | omega) (by first | decide | omega)]; exact a1, by rw [KS 2 (by first | decide | omega) (by first | decide | omega) (by first | decide | omega)]; exact a2, by rw [KS 3 (by first | decide | omega) (by first | decide | omega) (by first | decide | omega)]; exact a3, by rw [KS 4 (by first | decide | omega) (by first | decide | omega) (by first | decide | omega)]; exact a4, by rw [KS 5 (by first | decide | omega) (by first | decide | omega) (by first | decide | omega)]; exact a5⟩, ⟨by rw [KS 134 (by first | decide | omega) (by first | decide | omega) (by first | decide | omega)]; exact a7, by rw [KS 135 (by first | decide | omega) (by first | decide | omega) (by first | decide | omega)]; exact a8, by rw [KS 136 (by first | decide | omega) (by first | decide | omega) (by first | decide | omega)]; exact a9, by unfold T2; rw [KS 12 (by first | decide | omega) (by first | decide | omega) (by first | decide | omega)]; exact a10⟩, fun k hk => ?_, fun k hk => ?_, fun k hk => ?_, fun k hk => ?_, fun k hk => ?_, fun k hk => ?_, fun k hk => ?_, fun k hk => ?_, fun x y hx hy e1 e2 => ?_⟩
  · have hk0 : (k : Int) < (F 6).toInt := by rw [KS 6 (by first | decide | omega) (by first | decide | omega) (by first | decide | omega)] at hk; exact hk
    have q := v1 k hk0
    unfold VRe at q ⊢
    rw [KS (16 + 3 * k) (by omega) (by omega) (by omega), KS (16 + 3 * k + 1) (by omega) (by omega) (by omega), KS (16 + 3 * k + 2) (by omega) (by omega) (by omega)]
    exact q
  · have hk0 : (k : Int) < (F 7).toInt := by rw [KS 7 (by first | decide | omega) (by first | decide | omega) (by first | decide | omega)] at hk; exact hk
    have q := v2 k hk0
    rw [KS (40 + k) (by omega) (by omega) (by omega)]
    exact q
  · have hk0 : (k : Int) < (F 8).toInt := by rw [KS 8 (by first | decide | omega) (by first | decide | omega) (by first | decide | omega)] at hk; exact hk
    have q := v3 k hk0
    have r1 := c1 k hk0
    unfold Lt at r1
    have r2 : (F (44 + 3 * k)).toInt.toNat < 8 := by omega
    have r3 : ((F (44 + 3 * k)).toInt.toNat : Int) < (F 6).toInt := by omega
    unfold VFr at q ⊢
    rw [KS (44 + 3 * k) (by omega) (by omega) (by omega), KS (44 + 3 * k + 1) (by omega) (by omega) (by omega), KS (16 + 3 * (F (44 + 3 * k)).toInt.toNat) (by omega) (by omega) (by omega)]
    exact q
  · have hk0 : (k : Int) < (F 9).toInt := by rw [KS 9 (by first | decide | omega) (by first | decide | omega) (by first | decide | omega)] at hk; exact hk
    have q := v4 k hk0
    rw [KS (80 + 2 * k + 1) (by omega) (by omega) (by omega)]
    exact q
  · by_cases w : k = m
    · subst w
      exact ⟨k1, k2⟩
    · have hk0 : (k : Int) < (F 10).toInt := by omega
      have q := v5 k hk0
      have r1 := c4 k hk0
      unfold Lt at r1
      have r2 : (F (96 + 3 * k)).toInt.toNat < 8 := by omega
      have r3 : ((F (96 + 3 * k)).toInt.toNat : Int) < (F 6).toInt := by omega
      unfold VFr at q ⊢
      rw [KS (96 + 3 * k) (by omega) (by omega) (by omega), KS (96 + 3 * k + 1) (by omega) (by omega) (by omega), KS (96 + 3 * k + 2) (by omega) (by omega) (by omega), KS (16 + 3 * (F (96 + 3 * k)).toInt.toNat) (by omega) (by omega) (by omega)]
      exact q
  · have hk0 : (k : Int) < (F 11).toInt := by rw [KS 11 (by first | decide | omega) (by first | decide | omega) (by first | decide | omega)] at hk; exact hk
    have q := v6 k hk0
    rw [KS (114 + 3 * k) (by omega) (by omega) (by omega), KS (114 + 3 * k + 2) (by omega) (by omega) (by omega)]
    exact q
  · have hk0 : (k : Int) < (F 13).toInt := by rw [KS 13 (by first | decide | omega) (by first | decide | omega) (by first | decide | omega)] at hk; exact hk
    have q := v8 k hk0
    unfold VSi at q ⊢
    rw [KS (137 + 3 * k) (by omega) (by omega) (by omega), KS (137 + 3 * k + 1) (by omega) (by omega) (by omega), KS (137 + 3 * k + 2) (by omega) (by omega) (by omega), KS (12) (by omega) (by omega) (by omega)]
    exact q
  · have hk0 : (k : Int) < (F 14).toInt := by rw [KS 14 (by first | decide | omega) (by first | decide | omega) (by first | decide | omega)] at hk; exact hk
    have q := v9 k hk0
    have r1 := c6 k hk0
    unfold Lt at r1
    have r2 : (F (155 + 2 * k)).toInt.toNat < 8 := by omega
    have r3 : ((F (155 + 2 * k)).toInt.toNat : Int) < (F 6).toInt := by omega
    unfold VFr at q ⊢
    rw [KS (155 + 2 * k) (by omega) (by omega) (by omega), KS (155 + 2 * k + 1) (by omega) (by omega) (by omega), KS (16 + 3 * (F (155 + 2 * k)).toInt.toNat) (by omega) (by omega) (by omega)]
    exact q
  · rw [KS 8 (by first | decide | omega) (by first | decide | omega) (by first | decide | omega)] at hx hy
    rw [KS (44 + 3 * x) (by omega) (by omega) (by omega), KS (44 + 3 * y) (by omega) (by omega) (by omega)] at e1
    rw [KS (44 + 3 * x + 2) (by omega) (by omega) (by omega), KS (44 + 3 * y + 2) (by omega) (by omega) (by omega)] at e2
    exact vU x y hx hy e1 e2
theorem VB_man {F G : Nat → Int32} {m : Nat} (hB : FIv F) (h12 : IV (F 12) 0 8) (hR : RV0 F) (hV : VB F) (hm : (F 11).toInt = m) (lt : m < 4) (KX : (G 11).toInt = m + 1) (KS : ∀ i : Nat, i < 167 → i ≠ 11 → (i < 114 + 3 * m ∨ 114 + 3 * m + 3 ≤ i) → G i = F i) (k1 : IV (G (114 + 3 * m)) 0 3) (k2 : IV (G (114 + 3 * m + 2)) 0 40) : VB G := by
  obtain ⟨c1, c2, c3, c4, c5, c6, c7⟩ := hR
  obtain ⟨⟨a0, a1, a2, a3, a4, a5⟩, ⟨a7, a8, a9, a10⟩, v1, v2, v3, v4, v5, v6, v8, v9, vU⟩ := hV
  obtain ⟨⟨i6, j6⟩, ⟨i7, j7⟩, ⟨i8, j8⟩, ⟨i9, j9⟩, ⟨i10, j10⟩, ⟨i11, j11⟩, ⟨i13, j13⟩, ⟨i14, j14⟩⟩ := hB
  obtain ⟨i12, j12⟩ := h12
  refine ⟨⟨by rw [KS 0 (by first | decide | omega) (by first | decide | omega) (by first | decide | omega)]; exact a0, by rw [KS 1 (by first | decide | omega) (by first | decide | omega) (by first | decide | omega)]; exact a1, by rw [KS 2 (by first | decide | omega) (by first | decide | omega) (by first | decide | omega)]; exact a2, by rw [KS 3 (by first | decide | omega) (by first | decide | omega) (by first | decide | omega)]; exact a3, by rw [KS 4 (by first | decide | omega) (by first | decide | omega) (by first | decide | omega)]; exact a4, by rw [KS 5 (by first | decide | omega) (by first | decide | omega) (by first | decide | omega)]; exact a5⟩, ⟨by rw [KS 134 (by first | decide | omega) (by first | decide | omega) (by first | decide | omega)]; exact a7, by rw [KS 135 (by first | decide | omega) (by first | decide | omega) (by first | decide | omega)]; exact a8, by rw [KS 136 (by first | decide | omega) (by first | decide | omega) (by first | decide | omega)]; exact a9, by unfold T2; rw [KS 12 (by first | decide | omega) (by first | decide | omega) (by first | decide | omega)]; exact a10⟩, fun k hk => ?_, fun k hk => ?_, fun k hk => ?_, fun k hk => ?_, fun k hk => ?_, fun k hk => ?_, fun k hk => ?_, fun k hk => ?_, fun x y hx hy e1 e2 => ?_⟩
  · have hk0 : (k : Int) < (F 6).toInt := by rw [KS 6 (by first | decide | omega) (by first | decide | omega) (by first | decide | omega)] at hk; exact hk
    have q := v1 k hk0
    unfold VRe at q ⊢
    rw [KS (16 + 3 * k) (by omega) (by omega) (by omega), KS (16 + 3 * k + 1) (by omega) (by omega) (by omega), KS (16 + 3 * k + 2) (by omega) (by omega) (by omega)]
    exact q
  · have hk0 : (k : Int) < (F 7).toInt := by rw [KS 7 (by first | decide | omega) (by first | decide | omega) (by first | decide | omega)] at hk; exact hk
    have q := v2 k hk0
    rw [KS (40 + k) (by omega) (by omega) (by omega)]
    exact q
  · have hk0 : (k : Int) < (F 8).toInt := by rw [KS 8 (by first | decide | omega) (by first | decide | omega) (by first | decide | omega)] at hk; exact hk
    have q := v3 k hk0
    have r1 := c1 k hk0
    unfold Lt at r1
    have r2 : (F (44 + 3 * k)).toInt.toNat < 8 := by omega
    have r3 : ((F (44 + 3 * k)).toInt.toNat : Int) < (F 6).toInt := by omega
    unfold VFr at q ⊢
    rw [KS (44 + 3 * k) (by omega) (by omega) (by omega), KS (44 + 3 * k + 1) (by omega) (by omega) (by omega), KS (16 + 3 * (F (44 + 3 * k)).toInt.toNat) (by omega) (by omega) (by omega)]
    exact q
  · have hk0 : (k : Int) < (F 9).toInt := by rw [KS 9 (by first | decide | omega) (by first | decide | omega) (by first | decide | omega)] at hk; exact hk
    have q := v4 k hk0
    rw [KS (80 + 2 * k + 1) (by omega) (by omega) (by omega)]
    exact q
  · have hk0 : (k : Int) < (F 10).toInt := by rw [KS 10 (by first | decide | omega) (by first | decide | omega) (by first | decide | omega)] at hk; exact hk
    have q := v5 k hk0
    have r1 := c4 k hk0
    unfold Lt at r1
    have r2 : (F (96 + 3 * k)).toInt.toNat < 8 := by omega
    have r3 : ((F (96 + 3 * k)).toInt.toNat : Int) < (F 6).toInt := by omega
    unfold VFr at q ⊢
    rw [KS (96 + 3 * k) (by omega) (by omega) (by omega), KS (96 + 3 * k + 1) (by omega) (by omega) (by omega), KS (96 + 3 * k + 2) (by omega) (by omega) (by omega), KS (16 + 3 * (F (96 + 3 * k)).toInt.toNat) (by omega) (by omega) (by omega)]
    exact q
  · by_cases w : k = m
    · subst w
      exact ⟨k1, k2⟩
    · have hk0 : (k : Int) < (F 11).toInt := by omega
      have q := v6 k hk0
      rw [KS (114 + 3 * k) (by omega) (by omega) (by omega), KS (114 + 3 * k + 2) (by omega) (by omega) (by omega)]
      exact q
  · have hk0 : (k : Int) < (F 13).toInt := by rw [KS 13 (by first | decide | omega) (by first | decide | omega) (by first | decide | omega)] at hk; exact hk
    have q := v8 k hk0
    unfold VSi at q ⊢
    rw [KS (137 + 3 * k) (by omega) (by omega) (by omega), KS (137 + 3 * k + 1) (by omega) (by omega) (by omega), KS (137 + 3 * k + 2) (by omega) (by omega) (by omega), KS (12) (by omega) (by omega) (by omega)]
    exact q
  · have hk0 : (k : Int) < (F 14).toInt := by rw [KS 14 (by first | decide | omega) (by first | decide | omega) (by first | decide | omega)] at hk; exact hk
    have q := v9 k hk0
    have r1 := c6 k hk0
    unfold Lt at r1
    have r2 : (F (155 + 2 * k)).toInt.toNat < 8 := by omega
    have r3 : ((F (155 + 2 * k)).toInt.toNat : Int) < (F 6).toInt := by omega
    unfold VFr at q ⊢
    rw [KS (155 + 2 * k) (by omega) (by omega) (by omega), KS (155 + 2 * k + 1) (by omega) (by omega) (by omega), KS (16 + 3 * (F (155 + 2 * k)).toInt.toNat) (by omega) (by omega) (by omega)]
    exact q
  · rw [KS 8 (by first | decide | omega) (by first | decide | omega) (by first | decide | omega)] at hx hy
    rw [KS (44 + 3 * x) (by omega) (by omega) (by omega), KS (44 + 3 * y) (by omega) (by omega) (by omega)] at e1
    rw [KS (44 + 3 * x + 2) (by omega) (by omega) (by omega), KS (44 + 3 * y + 2) (by omega) (by omega) (by omega)] at e2
    exact vU x y hx hy e1 e2
theorem VB_shows {F G : Nat → Int32} (hB : FIv F) (h12 : IV (F 12) 0 8) (hR : RV0 F) (hV : VB F) (KS : ∀ i : Nat, i ≠ 12 → (i < 126 ∨ 133 < i) → G i = F i) (k0 : (F 12).toInt ≤ 0) (k2 : 2 ≤ (G 12).toInt) : VB G := by
  obtain ⟨c1, c2, c3, c4, c5, c6, c7⟩ := hR
  obtain ⟨⟨a0, a1, a2, a3, a4, a5⟩, ⟨a7, a8, a9, a10⟩, v1, v2, v3, v4, v5, v6, v8, v9, vU⟩ := hV
  obtain ⟨⟨i6, j6⟩, ⟨i7, j7⟩, ⟨i8, j8⟩, ⟨i9, j9⟩, ⟨i10, j10⟩, ⟨i11, j11⟩, ⟨i13, j13⟩, ⟨i14, j14⟩⟩ := hB
  obtain ⟨i12, j12⟩ := h12
  refine ⟨⟨by rw [KS 0 (by first | decide | omega) (by first | decide | omega)]; exact a0, by rw [KS 1 (by first | decide | omega) (by first | decide | omega)]; exact a1, by rw [KS 2 (by first | decide | omega) (by first | decide | omega)]; exact a2, by rw [KS 3 (by first | decide | omega) (by first | decide | omega)]; exact a3, by rw [KS 4 (by first | decide | omega) (by first | decide | omega)]; exact a4, by rw [KS 5 (by first | decide | omega) (by first | decide | omega)]; exact a5⟩, ⟨by rw [KS 134 (by first | decide | omega) (by first | decide | omega)]; exact a7, by rw [KS 135 (by first | decide | omega) (by first | decide | omega)]; exact a8, by rw [KS 136 (by first | decide | omega) (by first | decide | omega)]; exact a9, Or.inr k2⟩, fun k hk => ?_, fun k hk => ?_, fun k hk => ?_, fun k hk => ?_, fun k hk => ?_, fun k hk => ?_, fun k hk => ?_, fun k hk => ?_, fun x y hx hy e1 e2 => ?_⟩
  · have hk0 : (k : Int) < (F 6).toInt := by rw [KS 6 (by first | decide | omega) (by first | decide | omega)] at hk; exact hk
    have q := v1 k hk0
    unfold VRe at q ⊢
    rw [KS (16 + 3 * k) (by omega) (by omega), KS (16 + 3 * k + 1) (by omega) (by omega), KS (16 + 3 * k + 2) (by omega) (by omega)]
    exact q
  · have hk0 : (k : Int) < (F 7).toInt := by rw [KS 7 (by first | decide | omega) (by first | decide | omega)] at hk; exact hk
    have q := v2 k hk0
    rw [KS (40 + k) (by omega) (by omega)]
    exact q
  · have hk0 : (k : Int) < (F 8).toInt := by rw [KS 8 (by first | decide | omega) (by first | decide | omega)] at hk; exact hk
    have q := v3 k hk0
    have r1 := c1 k hk0
    unfold Lt at r1
    have r2 : (F (44 + 3 * k)).toInt.toNat < 8 := by omega
    have r3 : ((F (44 + 3 * k)).toInt.toNat : Int) < (F 6).toInt := by omega
    unfold VFr at q ⊢
    rw [KS (44 + 3 * k) (by omega) (by omega), KS (44 + 3 * k + 1) (by omega) (by omega), KS (16 + 3 * (F (44 + 3 * k)).toInt.toNat) (by omega) (by omega)]
    exact q
  · have hk0 : (k : Int) < (F 9).toInt := by rw [KS 9 (by first | decide | omega) (by first | decide | omega)] at hk; exact hk
    have q := v4 k hk0
    rw [KS (80 + 2 * k + 1) (by omega) (by omega)]
    exact q
  · have hk0 : (k : Int) < (F 10).toInt := by rw [KS 10 (by first | decide | omega) (by first | decide | omega)] at hk; exact hk
    have q := v5 k hk0
    have r1 := c4 k hk0
    unfold Lt at r1
    have r2 : (F (96 + 3 * k)).toInt.toNat < 8 := by omega
    have r3 : ((F (96 + 3 * k)).toInt.toNat : Int) < (F 6).toInt := by omega
    unfold VFr at q ⊢
    rw [KS (96 + 3 * k) (by omega) (by omega), KS (96 + 3 * k + 1) (by omega) (by omega), KS (96 + 3 * k + 2) (by omega) (by omega), KS (16 + 3 * (F (96 + 3 * k)).toInt.toNat) (by omega) (by omega)]
    exact q
  · have hk0 : (k : Int) < (F 11).toInt := by rw [KS 11 (by first | decide | omega) (by first | decide | omega)] at hk; exact hk
    have q := v6 k hk0
    rw [KS (114 + 3 * k) (by omega) (by omega), KS (114 + 3 * k + 2) (by omega) (by omega)]
    exact q
  · have hk0 : (k : Int) < (F 13).toInt := by rw [KS 13 (by first | decide | omega) (by first | decide | omega)] at hk; exact hk
    have q := v8 k hk0
    unfold VSi at q
    omega
  · have hk0 : (k : Int) < (F 14).toInt := by rw [KS 14 (by first | decide | omega) (by first | decide | omega)] at hk; exact hk
    have q := v9 k hk0
    have r1 := c6 k hk0
    unfold Lt at r1
    have r2 : (F (155 + 2 * k)).toInt.toNat < 8 := by omega
    have r3 : ((F (155 + 2 * k)).toInt.toNat : Int) < (F 6).toInt := by omega
    unfold VFr at q ⊢
    rw [KS (155 + 2 * k) (by omega) (by omega), KS (155 + 2 * k + 1) (by omega) (by omega), KS (16 + 3 * (F (155 + 2 * k)).toInt.toNat) (by omega) (by omega)]
    exact q
  · rw [KS 8 (by first | decide | omega) (by first | decide | omega)] at hx hy
    rw [KS (44 + 3 * x) (by omega) (by omega), KS (44 + 3 * y) (by omega) (by omega)] at e1
    rw [KS (44 + 3 * x + 2) (by omega) (by omega), KS (44 + 3 * y + 2) (by omega) (by omega)] at e2
    exact vU x y hx hy e1 e2
theorem VB_boys {F G : Nat → Int32} (hB : FIv F) (h12 : IV (F 12) 0 8) (hR : RV0 F) (hV : VB F) (KS : ∀ i : Nat, i ≠ 134 → i ≠ 135 → i ≠ 136 → G i = F i) (k7 : IV (G 134) 0 4 ∧ IV (G 135) 0 2000 ∧ IV (G 136) 0 50) : VB G := by
  obtain ⟨c1, c2, c3, c4, c5, c6, c7⟩ := hR
  obtain ⟨⟨a0, a1, a2, a3, a4, a5⟩, ⟨a7, a8, a9, a10⟩, v1, v2, v3, v4, v5, v6, v8, v9, vU⟩ := hV
  obtain ⟨⟨i6, j6⟩, ⟨i7, j7⟩, ⟨i8, j8⟩, ⟨i9, j9⟩, ⟨i10, j10⟩, ⟨i11, j11⟩, ⟨i13, j13⟩, ⟨i14, j14⟩⟩ := hB
  obtain ⟨i12, j12⟩ := h12
  refine ⟨⟨by rw [KS 0 (by first | decide | omega) (by first | decide | omega) (by first | decide | omega)]; exact a0, by rw [KS 1 (by first | decide | omega) (by first | decide | omega) (by first | decide | omega)]; exact a1, by rw [KS 2 (by first | decide | omega) (by first | decide | omega) (by first | decide | omega)]; exact a2, by rw [KS 3 (by first | decide | omega) (by first | decide | omega) (by first | decide | omega)]; exact a3, by rw [KS 4 (by first | decide | omega) (by first | decide | omega) (by first | decide | omega)]; exact a4, by rw [KS 5 (by first | decide | omega) (by first | decide | omega) (by first | decide | omega)]; exact a5⟩, ⟨k7.1, k7.2.1, k7.2.2, by unfold T2; rw [KS 12 (by first | decide | omega) (by first | decide | omega) (by first | decide | omega)]; exact a10⟩, fun k hk => ?_, fun k hk => ?_, fun k hk => ?_, fun k hk => ?_, fun k hk => ?_, fun k hk => ?_, fun k hk => ?_, fun k hk => ?_, fun x y hx hy e1 e2 => ?_⟩
  · have hk0 : (k : Int) < (F 6).toInt := by rw [KS 6 (by first | decide | omega) (by first | decide | omega) (by first | decide | omega)] at hk; exact hk
    have q := v1 k hk0
    unfold VRe at q ⊢
    rw [KS (16 + 3 * k) (by omega) (by omega) (by omega), KS (16 + 3 * k + 1) (by omega) (by omega) (by omega), KS (16 + 3 * k + 2) (by omega) (by omega) (by omega)]
    exact q
  · have hk0 : (k : Int) < (F 7).toInt := by rw [KS 7 (by first | decide | omega) (by first | decide | omega) (by first | decide | omega)] at hk; exact hk
    have q := v2 k hk0
    rw [KS (40 + k) (by omega) (by omega) (by omega)]
    exact q
  · have hk0 : (k : Int) < (F 8).toInt := by rw [KS 8 (by first | decide | omega) (by first | decide | omega) (by first | decide | omega)] at hk; exact hk
    have q := v3 k hk0
    have r1 := c1 k hk0
    unfold Lt at r1
    have r2 : (F (44 + 3 * k)).toInt.toNat < 8 := by omega
    have r3 : ((F (44 + 3 * k)).toInt.toNat : Int) < (F 6).toInt := by omega
    unfold VFr at q ⊢
    rw [KS (44 + 3 * k) (by omega) (by omega) (by omega), KS (44 + 3 * k + 1) (by omega) (by omega) (by omega), KS (16 + 3 * (F (44 + 3 * k)).toInt.toNat) (by omega) (by omega) (by omega)]
    exact q
  · have hk0 : (k : Int) < (F 9).toInt := by rw [KS 9 (by first | decide | omega) (by first | decide | omega) (by first | decide | omega)] at hk; exact hk
    have q := v4 k hk0
    rw [KS (80 + 2 * k + 1) (by omega) (by omega) (by omega)]
    exact q
  · have hk0 : (k : Int) < (F 10).toInt := by rw [KS 10 (by first | decide | omega) (by first | decide | omega) (by first | decide | omega)] at hk; exact hk
    have q := v5 k hk0
    have r1 := c4 k hk0
    unfold Lt at r1
    have r2 : (F (96 + 3 * k)).toInt.toNat < 8 := by omega
    have r3 : ((F (96 + 3 * k)).toInt.toNat : Int) < (F 6).toInt := by omega
    unfold VFr at q ⊢
    rw [KS (96 + 3 * k) (by omega) (by omega) (by omega), KS (96 + 3 * k + 1) (by omega) (by omega) (by omega), KS (96 + 3 * k + 2) (by omega) (by omega) (by omega), KS (16 + 3 * (F (96 + 3 * k)).toInt.toNat) (by omega) (by omega) (by omega)]
    exact q
  · have hk0 : (k : Int) < (F 11).toInt := by rw [KS 11 (by first | decide | omega) (by first | decide | omega) (by first | decide | omega)] at hk; exact hk
    have q := v6 k hk0
    rw [KS (114 + 3 * k) (by omega) (by omega) (by omega), KS (114 + 3 * k + 2) (by omega) (by omega) (by omega)]
    exact q
  · have hk0 : (k : Int) < (F 13).toInt := by rw [KS 13 (by first | decide | omega) (by first | decide | omega) (by first | decide | omega)] at hk; exact hk
    have q := v8 k hk0
    unfold VSi at q ⊢
    rw [KS (137 + 3 * k) (by omega) (by omega) (by omega), KS (137 + 3 * k + 1) (by omega) (by omega) (by omega), KS (137 + 3 * k + 2) (by omega) (by omega) (by omega), KS (12) (by omega) (by omega) (by omega)]
    exact q
  · have hk0 : (k : Int) < (F 14).toInt := by rw [KS 14 (by first | decide | omega) (by first | decide | omega) (by first | decide | omega)] at hk; exact hk
    have q := v9 k hk0
    have r1 := c6 k hk0
    unfold Lt at r1
    have r2 : (F (155 + 2 * k)).toInt.toNat < 8 := by omega
    have r3 : ((F (155 + 2 * k)).toInt.toNat : Int) < (F 6).toInt := by omega
    unfold VFr at q ⊢
    rw [KS (155 + 2 * k) (by omega) (by omega) (by omega), KS (155 + 2 * k + 1) (by omega) (by omega) (by omega), KS (16 + 3 * (F (155 + 2 * k)).toInt.toNat) (by omega) (by omega) (by omega)]
    exact q
  · rw [KS 8 (by first | decide | omega) (by first | decide | omega) (by first | decide | omega)] at hx hy
    rw [KS (44 + 3 * x) (by omega) (by omega) (by omega), KS (44 + 3 * y) (by omega) (by omega) (by omega)] at e1
    rw [KS (44 + 3 * x + 2) (by omega) (by omega) (by omega), KS (44 + 3 * y + 2) (by omega) (by omega) (by omega)] at e2
    exact vU x y hx hy e1 e2
theorem VB_seen {F G : Nat → Int32} {m : Nat} (hB : FIv F) (h12 : IV (F 12) 0 8) (hR : RV0 F) (hV : VB F) (hm : (F 13).toInt = m) (lt : m < 6) (KX : (G 13).toInt = m + 1) (KS : ∀ i : Nat, i < 167 → i ≠ 13 → (i < 137 + 3 * m ∨ 137 + 3 * m + 3 ≤ i) → G i = F i) (k1 : VSi G m) : VB G := by
  obtain ⟨c1, c2, c3, c4, c5, c6, c7⟩ := hR
  obtain ⟨⟨a0, a1, a2, a3, a4, a5⟩, ⟨a7, a8, a9, a10⟩, v1, v2, v3, v4, v5, v6, v8, v9, vU⟩ := hV
  obtain ⟨⟨i6, j6⟩, ⟨i7, j7⟩, ⟨i8, j8⟩, ⟨i9, j9⟩, ⟨i10, j10⟩, ⟨i11, j11⟩, ⟨i13, j13⟩, ⟨i14, j14⟩⟩ := hB
  obtain ⟨i12, j12⟩ := h12
  refine ⟨⟨by rw [KS 0 (by first | decide | omega) (by first | decide | omega) (by first | decide | omega)]; exact a0, by rw [KS 1 (by first | decide | omega) (by first | decide | omega) (by first | decide | omega)]; exact a1, by rw [KS 2 (by first | decide | omega) (by first | decide | omega) (by first | decide | omega)]; exact a2, by rw [KS 3 (by first | decide | omega) (by first | decide | omega) (by first | decide | omega)]; exact a3, by rw [KS 4 (by first | decide | omega) (by first | decide | omega) (by first | decide | omega)]; exact a4, by rw [KS 5 (by first | decide | omega) (by first | decide | omega) (by first | decide | omega)]; exact a5⟩, ⟨by rw [KS 134 (by first | decide | omega) (by first | decide | omega) (by first | decide | omega)]; exact a7, by rw [KS 135 (by first | decide | omega) (by first | decide | omega) (by first | decide | omega)]; exact a8, by rw [KS 136 (by first | decide | omega) (by first | decide | omega) (by first | decide | omega)]; exact a9, by unfold T2; rw [KS 12 (by first | decide | omega) (by first | decide | omega) (by first | decide | omega)]; exact a10⟩, fun k hk => ?_, fun k hk => ?_, fun k hk => ?_, fun k hk => ?_, fun k hk => ?_, fun k hk => ?_, fun k hk => ?_, fun k hk => ?_, fun x y hx hy e1 e2 => ?_⟩
  · have hk0 : (k : Int) < (F 6).toInt := by rw [KS 6 (by first | decide | omega) (by first | decide | omega) (by first | decide | omega)] at hk; exact hk
    have q := v1 k hk0
    unfold VRe at q ⊢
    rw [KS (16 + 3 * k) (by omega) (by omega) (by omega), KS (16 + 3 * k + 1) (by omega) (by omega) (by omega), KS (16 + 3 * k + 2) (by omega) (by omega) (by omega)]
    exact q
  · have hk0 : (k : Int) < (F 7).toInt := by rw [KS 7 (by first | decide | omega) (by first | decide | omega) (by first | decide | omega)] at hk; exact hk
    have q := v2 k hk0
    rw [KS (40 + k) (by omega) (by omega) (by omega)]
    exact q
  · have hk0 : (k : Int) < (F 8).toInt := by rw [KS 8 (by first | decide | omega) (by first | decide | omega) (by first | decide | omega)] at hk; exact hk
    have q := v3 k hk0
    have r1 := c1 k hk0
    unfold Lt at r1
    have r2 : (F (44 + 3 * k)).toInt.toNat < 8 := by omega
    have r3 : ((F (44 + 3 * k)).toInt.toNat : Int) < (F 6).toInt := by omega
    unfold VFr at q ⊢
    rw [KS (44 + 3 * k) (by omega) (by omega) (by omega), KS (44 + 3 * k + 1) (by omega) (by omega) (by omega), KS (16 + 3 * (F (44 + 3 * k)).toInt.toNat) (by omega) (by omega) (by omega)]
    exact q
  · have hk0 : (k : Int) < (F 9).toInt := by rw [KS 9 (by first | decide | omega) (by first | decide | omega) (by first | decide | omega)] at hk; exact hk
    have q := v4 k hk0
    rw [KS (80 + 2 * k + 1) (by omega) (by omega) (by omega)]
    exact q
  · have hk0 : (k : Int) < (F 10).toInt := by rw [KS 10 (by first | decide | omega) (by first | decide | omega) (by first | decide | omega)] at hk; exact hk
    have q := v5 k hk0
    have r1 := c4 k hk0
    unfold Lt at r1
    have r2 : (F (96 + 3 * k)).toInt.toNat < 8 := by omega
    have r3 : ((F (96 + 3 * k)).toInt.toNat : Int) < (F 6).toInt := by omega
    unfold VFr at q ⊢
    rw [KS (96 + 3 * k) (by omega) (by omega) (by omega), KS (96 + 3 * k + 1) (by omega) (by omega) (by omega), KS (96 + 3 * k + 2) (by omega) (by omega) (by omega), KS (16 + 3 * (F (96 + 3 * k)).toInt.toNat) (by omega) (by omega) (by omega)]
    exact q
  · have hk0 : (k : Int) < (F 11).toInt := by rw [KS 11 (by first | decide | omega) (by first | decide | omega) (by first | decide | omega)] at hk; exact hk
    have q := v6 k hk0
    rw [KS (114 + 3 * k) (by omega) (by omega) (by omega), KS (114 + 3 * k + 2) (by omega) (by omega) (by omega)]
    exact q
  · by_cases w : k = m
    · subst w
      exact k1
    · have hk0 : (k : Int) < (F 13).toInt := by omega
      have q := v8 k hk0
      unfold VSi at q ⊢
      rw [KS (137 + 3 * k) (by omega) (by omega) (by omega), KS (137 + 3 * k + 1) (by omega) (by omega) (by omega), KS (137 + 3 * k + 2) (by omega) (by omega) (by omega), KS (12) (by omega) (by omega) (by omega)]
      exact q
  · have hk0 : (k : Int) < (F 14).toInt := by rw [KS 14 (by first | decide | omega) (by first | decide | omega) (by first | decide | omega)] at hk; exact hk
    have q := v9 k hk0
    have r1 := c6 k hk0
    unfold Lt at r1
    have r2 : (F (155 + 2 * k)).toInt.toNat < 8 := by omega
    have r3 : ((F (155 + 2 * k)).toInt.toNat : Int) < (F 6).toInt := by omega
    unfold VFr at q ⊢
    rw [KS (155 + 2 * k) (by omega) (by omega) (by omega), KS (155 + 2 * k + 1) (by omega) (by omega) (by omega), KS (16 + 3 * (F (155 + 2 * k)).toInt.toNat) (by omega) (by omega) (by omega)]
    exact q
  · rw [KS 8 (by first | decide | omega) (by first | decide | omega) (by first | decide | omega)] at hx hy
    rw [KS (44 + 3 * x) (by omega) (by omega) (by omega), KS (44 + 3 * y) (by omega) (by omega) (by omega)] at e1
    rw [KS (44 + 3 * x + 2) (by omega) (by omega) (by omega), KS (44 + 3 * y + 2) (by omega) (by omega) (by omega)] at e2
    exact vU x y hx hy e1 e2
theorem VB_scratch {F G : Nat → Int32} {m : Nat} (hB : FIv F) (h12 : IV (F 12) 0 8) (hR : RV0 F) (hV : VB F) (hm : (F 14).toInt = m) (lt : m < 6) (KX : (G 14).toInt = m + 1) (KS : ∀ i : Nat, i < 167 → i ≠ 14 → (i < 155 + 2 * m ∨ 155 + 2 * m + 2 ≤ i) → G i = F i) (k1 : VFr G (155 + 2 * m)) : VB G := by
  obtain ⟨c1, c2, c3, c4, c5, c6, c7⟩ := hR
  obtain ⟨⟨a0, a1, a2, a3, a4, a5⟩, ⟨a7, a8, a9, a10⟩, v1, v2, v3, v4, v5, v6, v8, v9, vU⟩ := hV
  obtain ⟨⟨i6, j6⟩, ⟨i7, j7⟩, ⟨i8, j8⟩, ⟨i9, j9⟩, ⟨i10, j10⟩, ⟨i11, j11⟩, ⟨i13, j13⟩, ⟨i14, j14⟩⟩ := hB
  obtain ⟨i12, j12⟩ := h12
  refine ⟨⟨by rw [KS 0 (by first | decide | omega) (by first | decide | omega) (by first | decide | omega)]; exact a0, by rw [KS 1 (by first | decide | omega) (by first | decide | omega) (by first | decide | omega)]; exact a1, by rw [KS 2 (by first | decide | omega) (by first | decide | omega) (by first | decide | omega)]; exact a2, by rw [KS 3 (by first | decide | omega) (by first | decide | omega) (by first | decide | omega)]; exact a3, by rw [KS 4 (by first | decide | omega) (by first | decide | omega) (by first | decide | omega)]; exact a4, by rw [KS 5 (by first | decide | omega) (by first | decide | omega) (by first | decide | omega)]; exact a5⟩, ⟨by rw [KS 134 (by first | decide | omega) (by first | decide | omega) (by first | decide | omega)]; exact a7, by rw [KS 135 (by first | decide | omega) (by first | decide | omega) (by first | decide | omega)]; exact a8, by rw [KS 136 (by first | decide | omega) (by first | decide | omega) (by first | decide | omega)]; exact a9, by unfold T2; rw [KS 12 (by first | decide | omega) (by first | decide | omega) (by first | decide | omega)]; exact a10⟩, fun k hk => ?_, fun k hk => ?_, fun k hk => ?_, fun k hk => ?_, fun k hk => ?_, fun k hk => ?_, fun k hk => ?_, fun k hk => ?_, fun x y hx hy e1 e2 => ?_⟩
  · have hk0 : (k : Int) < (F 6).toInt := by rw [KS 6 (by first | decide | omega) (by first | decide | omega) (by first | decide | omega)] at hk; exact hk
    have q := v1 k hk0
    unfold VRe at q ⊢
    rw [KS (16 + 3 * k) (by omega) (by omega) (by omega), KS (16 + 3 * k + 1) (by omega) (by omega) (by omega), KS (16 + 3 * k + 2) (by omega) (by omega) (by omega)]
    exact q
  · have hk0 : (k : Int) < (F 7).toInt := by rw [KS 7 (by first | decide | omega) (by first | decide | omega) (by first | decide | omega)] at hk; exact hk
    have q := v2 k hk0
    rw [KS (40 + k) (by omega) (by omega) (by omega)]
    exact q
  · have hk0 : (k : Int) < (F 8).toInt := by rw [KS 8 (by first | decide | omega) (by first | decide | omega) (by first | decide | omega)] at hk; exact hk
    have q := v3 k hk0
    have r1 := c1 k hk0
    unfold Lt at r1
    have r2 : (F (44 + 3 * k)).toInt.toNat < 8 := by omega
    have r3 : ((F (44 + 3 * k)).toInt.toNat : Int) < (F 6).toInt := by omega
    unfold VFr at q ⊢
    rw [KS (44 + 3 * k) (by omega) (by omega) (by omega), KS (44 + 3 * k + 1) (by omega) (by omega) (by omega), KS (16 + 3 * (F (44 + 3 * k)).toInt.toNat) (by omega) (by omega) (by omega)]
    exact q
  · have hk0 : (k : Int) < (F 9).toInt := by rw [KS 9 (by first | decide | omega) (by first | decide | omega) (by first | decide | omega)] at hk; exact hk
    have q := v4 k hk0
    rw [KS (80 + 2 * k + 1) (by omega) (by omega) (by omega)]
    exact q
  · have hk0 : (k : Int) < (F 10).toInt := by rw [KS 10 (by first | decide | omega) (by first | decide | omega) (by first | decide | omega)] at hk; exact hk
    have q := v5 k hk0
    have r1 := c4 k hk0
    unfold Lt at r1
    have r2 : (F (96 + 3 * k)).toInt.toNat < 8 := by omega
    have r3 : ((F (96 + 3 * k)).toInt.toNat : Int) < (F 6).toInt := by omega
    unfold VFr at q ⊢
    rw [KS (96 + 3 * k) (by omega) (by omega) (by omega), KS (96 + 3 * k + 1) (by omega) (by omega) (by omega), KS (96 + 3 * k + 2) (by omega) (by omega) (by omega), KS (16 + 3 * (F (96 + 3 * k)).toInt.toNat) (by omega) (by omega) (by omega)]
    exact q
  · have hk0 : (k : Int) < (F 11).toInt := by rw [KS 11 (by first | decide | omega) (by first | decide | omega) (by first | decide | omega)] at hk; exact hk
    have q := v6 k hk0
    rw [KS (114 + 3 * k) (by omega) (by omega) (by omega), KS (114 + 3 * k + 2) (by omega) (by omega) (by omega)]
    exact q
  · have hk0 : (k : Int) < (F 13).toInt := by rw [KS 13 (by first | decide | omega) (by first | decide | omega) (by first | decide | omega)] at hk; exact hk
    have q := v8 k hk0
    unfold VSi at q ⊢
    rw [KS (137 + 3 * k) (by omega) (by omega) (by omega), KS (137 + 3 * k + 1) (by omega) (by omega) (by omega), KS (137 + 3 * k + 2) (by omega) (by omega) (by omega), KS (12) (by omega) (by omega) (by omega)]
    exact q
  · by_cases w : k = m
    · subst w
      exact k1
    · have hk0 : (k : Int) < (F 14).toInt := by omega
      have q := v9 k hk0
      have r1 := c6 k hk0
      unfold Lt at r1
      have r2 : (F (155 + 2 * k)).toInt.toNat < 8 := by omega
      have r3 : ((F (155 + 2 * k)).toInt.toNat : Int) < (F 6).toInt := by omega
      unfold VFr at q ⊢
      rw [KS (155 + 2 * k) (by omega) (by omega) (by omega), KS (155 + 2 * k + 1) (by omega) (by omega) (by omega), KS (16 + 3 * (F (155 + 2 * k)).toInt.toNat) (by omega) (by omega) (by omega)]
      exact q
  · rw [KS 8 (by first | decide | omega) (by first | decide | omega) (by first | decide | omega)] at hx hy
    rw [KS (44 + 3 * x) (by omega) (by omega) (by omega), KS (44 + 3 * y) (by omega) (by omega) (by omega)] at e1
    rw [KS (44 + 3 * x + 2) (by omega) (by omega) (by omega), KS (44 + 3 * y + 2) (by omega) (by omega) (by omega)] at e2
    exact vU x y hx hy e1 e2
theorem VB_all {F G : Nat → Int32} (hB : FIv F) (h12 : IV (F 12) 0 8) (hR : RV0 F) (hV : VB F) (KS : ∀ i : Nat, i < 167 → G i = F i)  : VB G := by
  obtain ⟨c1, c2, c3, c4, c5, c6, c7⟩ := hR
  obtain ⟨⟨a0, a1, a2, a3, a4, a5⟩, ⟨a7, a8, a9, a10⟩, v1, v2, v3, v4, v5, v6, v8, v9, vU⟩ := hV
  obtain ⟨⟨i6, j6⟩, ⟨i7, j7⟩, ⟨i8, j8⟩, ⟨i9, j9⟩, ⟨i10, j10⟩, ⟨i11, j11⟩, ⟨i13, j13⟩, ⟨i14, j14⟩⟩ := hB
  obtain ⟨i12, j12⟩ := h12
  refine ⟨⟨by rw [KS 0 (by first | decide | omega)]; exact a0, by rw [KS 1 (by first | decide | omega)]; exact a1, by rw [KS 2 (by first | decide | omega)]; exact a2, by rw [KS 3 (by first | decide | omega)]; exact a3, by rw [KS 4 (by first | decide | omega)]; exact a4, by rw [KS 5 (by first | decide | omega)]; exact a5⟩, ⟨by rw [KS 134 (by first | decide | omega)]; exact a7, by rw [KS 135 (by first | decide | omega)]; exact a8, by rw [KS 136 (by first | decide | omega)]; exact a9, by unfold T2; rw [KS 12 (by first | decide | omega)]; exact a10⟩, fun k hk => ?_, fun k hk => ?_, fun k hk => ?_, fun k hk => ?_, fun k hk => ?_, fun k hk => ?_, fun k hk => ?_, fun k hk => ?_, fun x y hx hy e1 e2 => ?_⟩
  · have hk0 : (k : Int) < (F 6).toInt := by rw [KS 6 (by first | decide | omega)] at hk; exact hk
    have q := v1 k hk0
    unfold VRe at q ⊢
    rw [KS (16 + 3 * k) (by omega), KS (16 + 3 * k + 1) (by omega), KS (16 + 3 * k + 2) (by omega)]
    exact q
  · have hk0 : (k : Int) < (F 7).toInt := by rw [KS 7 (by first | decide | omega)] at hk; exact hk
    have q := v2 k hk0
    rw [KS (40 + k) (by omega)]
    exact q
  · have hk0 : (k : Int) < (F 8).toInt := by rw [KS 8 (by first | decide | omega)] at hk; exact hk
    have q := v3 k hk0
    have r1 := c1 k hk0
    unfold Lt at r1
    have r2 : (F (44 + 3 * k)).toInt.toNat < 8 := by omega
    have r3 : ((F (44 + 3 * k)).toInt.toNat : Int) < (F 6).toInt := by omega
    unfold VFr at q ⊢
    rw [KS (44 + 3 * k) (by omega), KS (44 + 3 * k + 1) (by omega), KS (16 + 3 * (F (44 + 3 * k)).toInt.toNat) (by omega)]
    exact q
  · have hk0 : (k : Int) < (F 9).toInt := by rw [KS 9 (by first | decide | omega)] at hk; exact hk
    have q := v4 k hk0
    rw [KS (80 + 2 * k + 1) (by omega)]
    exact q
  · have hk0 : (k : Int) < (F 10).toInt := by rw [KS 10 (by first | decide | omega)] at hk; exact hk
    have q := v5 k hk0
    have r1 := c4 k hk0
    unfold Lt at r1
    have r2 : (F (96 + 3 * k)).toInt.toNat < 8 := by omega
    have r3 : ((F (96 + 3 * k)).toInt.toNat : Int) < (F 6).toInt := by omega
    unfold VFr at q ⊢
    rw [KS (96 + 3 * k) (by omega), KS (96 + 3 * k + 1) (by omega), KS (96 + 3 * k + 2) (by omega), KS (16 + 3 * (F (96 + 3 * k)).toInt.toNat) (by omega)]
    exact q
  · have hk0 : (k : Int) < (F 11).toInt := by rw [KS 11 (by first | decide | omega)] at hk; exact hk
    have q := v6 k hk0
    rw [KS (114 + 3 * k) (by omega), KS (114 + 3 * k + 2) (by omega)]
    exact q
  · have hk0 : (k : Int) < (F 13).toInt := by rw [KS 13 (by first | decide | omega)] at hk; exact hk
    have q := v8 k hk0
    unfold VSi at q ⊢
    rw [KS (137 + 3 * k) (by omega), KS (137 + 3 * k + 1) (by omega), KS (137 + 3 * k + 2) (by omega), KS (12) (by omega)]
    exact q
  · have hk0 : (k : Int) < (F 14).toInt := by rw [KS 14 (by first | decide | omega)] at hk; exact hk
    have q := v9 k hk0
    have r1 := c6 k hk0
    unfold Lt at r1
    have r2 : (F (155 + 2 * k)).toInt.toNat < 8 := by omega
    have r3 : ((F (155 + 2 * k)).toInt.toNat : Int) < (F 6).toInt := by omega
    unfold VFr at q ⊢
    rw [KS (155 + 2 * k) (by omega), KS (155 + 2 * k + 1) (by omega), KS (16 + 3 * (F (155 + 2 * k)).toInt.toNat) (by omega)]
    exact q
  · rw [KS 8 (by first | decide | omega)] at hx hy
    rw [KS (44 + 3 * x) (by omega), KS (44 + 3 * y) (by omega)] at e1
    rw [KS (44 + 3 * x + 2) (by omega), KS (44 + 3 * y + 2) (by omega)] at e2
    exact vU x y hx hy e1 e2
theorem VB_line {F T : Nat → Int32} {n a : Int32} {v : (Nat → Int32) × Int32} (hB : FIv F) (h12 : IV (F 12) 0 8) (f1 : ∀ j : Nat, j < 8 → (F 6).toInt ≤ j → ¬ 0 < (F (167 + j)).toInt) (f2 : ∀ j : Nat, j < 4 → (F 7).toInt ≤ j → ¬ 0 < (F (175 + j)).toInt) (hR : RV0 F) (hV : VB F) (h : lineS F T n a = .inr v) : VB v.1 := by
  have hB2 := hB
  obtain ⟨⟨i6, j6⟩, ⟨i7, j7⟩, ⟨i8, j8⟩, ⟨i9, j9⟩, ⟨i10, j10⟩, ⟨i11, j11⟩, ⟨i13, j13⟩, ⟨i14, j14⟩⟩ := hB2
  unfold lineS at h
  by_cases z0 : IsW T n a "house"
  case pos =>
    rw [if_pos z0] at h
    unfold houseS at h
    by_cases q : F 15 = 1
    · rw [if_pos q] at h; cases h
    rw [if_neg q] at h
    obtain ⟨w0, g0, h⟩ := bnd_i h
    obtain ⟨w1, g1, h⟩ := bnd_i h
    obtain ⟨w2, g2, h⟩ := bnd_i h
    obtain ⟨w3, g3, h⟩ := bnd_i h
    obtain ⟨w4, g4, h⟩ := bnd_i h
    obtain ⟨w5, g5, h⟩ := bnd_i h
    have b0 := aft_b g0
    have b1 := aft_b g1
    have b2 := aft_b g2
    have b3 := aft_b g3
    have b4 := aft_b g4
    have b5 := aft_b g5
    have d0 : (0 : Int32).toInt = 0 := by decide
    have d1 : (1 : Int32).toInt = 1 := by decide
    have d50 : (50 : Int32).toInt = 50 := by decide
    have d99 : (99 : Int32).toInt = 99 := by decide
    have d9999 : (9999 : Int32).toInt = 9999 := by decide
    have d999 : (999 : Int32).toInt = 999 := by decide
    have e := Sum.inr.inj h
    rw [← e]
    refine VB_keep0 (G := upd (upd (upd (upd (upd (upd (upd F 0 w0.1) 1 w1.1) 2 w2.1) 3 w3.1) 4 w4.1) 5 w5.1) 15 1) hB h12 hR hV (fun i q1 q2 q3 => by rw [upd_ne (by omega), upd_ne (by omega), upd_ne (by omega), upd_ne (by omega), upd_ne (by omega), upd_ne (by omega), upd_ne (by omega)]) ⟨?_, ?_, ?_, ?_, ?_, ?_⟩
    · rw [upd_ne (by omega), upd_ne (by omega), upd_ne (by omega), upd_ne (by omega), upd_ne (by omega), upd_ne (by omega), upd_at, IV]; omega
    · rw [upd_ne (by omega), upd_ne (by omega), upd_ne (by omega), upd_ne (by omega), upd_ne (by omega), upd_at, IV]; omega
    · rw [upd_ne (by omega), upd_ne (by omega), upd_ne (by omega), upd_ne (by omega), upd_at, IV]; omega
    · rw [upd_ne (by omega), upd_ne (by omega), upd_ne (by omega), upd_at, IV]; omega
    · rw [upd_ne (by omega), upd_ne (by omega), upd_at, IV]; omega
    · rw [upd_ne (by omega), upd_at, IV]; omega
  rw [if_neg z0] at h
  by_cases z1 : IsW T n a "reel"
  case pos =>
    rw [if_pos z1] at h
    obtain ⟨b, g, h⟩ := bnd_i h
    have lt := opn_i g
    have oc : (8 : Int32).toInt = 8 := by decide
    obtain ⟨m, hm⟩ : ∃ a : Nat, (F 6).toInt = a := ⟨(F 6).toInt.toNat, by omega⟩
    have em : (F 6).toInt.toNat = m := by omega
    have ein := inc_n hm (by omega)
    unfold reelS at h
    obtain ⟨w0, g0, h⟩ := bnd_i h
    obtain ⟨w1, g1, h⟩ := bnd_i h
    obtain ⟨w2, g2, h⟩ := bnd_i h
    obtain ⟨w3, g3, h⟩ := bnd_i h
    obtain ⟨n1, n2⟩ := new_inr g0
    have b1 := aft_b g1
    have b2 := aft_b g2
    have b3 := aft_b g3
    have d0 : (0 : Int32).toInt = 0 := by decide
    have d2 : (2 : Int32).toInt = 2 := by decide
    have d2000 : (2000 : Int32).toInt = 2000 := by decide
    have s1 := sub1I (x := w1.1) (a := 2) (b := 2000) ⟨by omega, by omega⟩ (by omega) (by omega)
    have e := Sum.inr.inj h
    rw [← e]
    refine VB_reel (G := (upd (upd (upd (upd w0.1 (16 + 3 * (F 6).toInt.toNat) w1.1) (16 + 3 * (F 6).toInt.toNat + 1) w2.1) (16 + 3 * (F 6).toInt.toNat + 2) w3.1) 6 (F 6 + 1))) (m := m) hB h12 hR hV hm (by omega) (by rw [upd_at, ein]) (fun i q1 q2 q3 => by rw [em, upd_ne (by omega), upd_ne (by omega), upd_ne (by omega), upd_ne (by omega), n1, wrN_lt (by omega)]) ?_
    unfold VRe IV
    rw [em, upd_ne (show 16 + 3 * m ≠ 6 by omega), upd_ne (show 16 + 3 * m ≠ 16 + 3 * m + 2 by omega), upd_ne (show 16 + 3 * m ≠ 16 + 3 * m + 1 by omega), upd_at, upd_ne (show 16 + 3 * m + 1 ≠ 6 by omega), upd_ne (show 16 + 3 * m + 1 ≠ 16 + 3 * m + 2 by omega), upd_at, upd_ne (show 16 + 3 * m + 2 ≠ 6 by omega), upd_at]
    omega
  rw [if_neg z1] at h
  by_cases z2 : IsW T n a "town"
  case pos =>
    rw [if_pos z2] at h
    obtain ⟨b, g, h⟩ := bnd_i h
    have lt := opn_i g
    have oc : (4 : Int32).toInt = 4 := by decide
    obtain ⟨m, hm⟩ : ∃ a : Nat, (F 7).toInt = a := ⟨(F 7).toInt.toNat, by omega⟩
    have em : (F 7).toInt.toNat = m := by omega
    have ein := inc_n hm (by omega)
    unfold townS at h
    obtain ⟨w0, g0, h⟩ := bnd_i h
    obtain ⟨w1, g1, h⟩ := bnd_i h
    obtain ⟨n1, n2⟩ := new_inr g0
    have b1 := aft_b g1
    have d1 : (1 : Int32).toInt = 1 := by decide
    have d9 : (9 : Int32).toInt = 9 := by decide
    have e := Sum.inr.inj h
    rw [← e]
    refine VB_town (G := (upd (upd w0.1 (40 + (F 7).toInt.toNat) w1.1) 7 (F 7 + 1))) (m := m) hB h12 hR hV hm (by omega) (by rw [upd_at, ein]) (fun i q1 q2 q3 => by rw [em, upd_ne (by omega), upd_ne (by omega), n1, wrN_lt (by omega)]) ?_
    rw [em, upd_ne (by omega), upd_at, IV]
    omega
  rw [if_neg z2] at h
  by_cases z3 : IsW T n a "mark"
  case pos =>
    rw [if_pos z3] at h
    obtain ⟨b, g, h⟩ := bnd_i h
    have lt := opn_i g
    have oc : (12 : Int32).toInt = 12 := by decide
    obtain ⟨m, hm⟩ : ∃ a : Nat, (F 8).toInt = a := ⟨(F 8).toInt.toNat, by omega⟩
    have em : (F 8).toInt.toNat = m := by omega
    have ein := inc_n hm (by omega)
    unfold markS at h
    obtain ⟨w0, g0, h⟩ := bnd_i h
    obtain ⟨w1, g1, h⟩ := bnd_i h
    obtain ⟨w2, g2, h⟩ := bnd_i h
    obtain ⟨w3, g3, h⟩ := bnd_i h
    have r1 := (reelP_inr g0).1
    have r2 := reelP_lt f1 g0
    rw [IV] at r1
    obtain ⟨x, hx⟩ : ∃ a : Nat, w0.1.toInt = a := ⟨w0.1.toInt.toNat, by omega⟩
    have ex : w0.1.toInt.toNat = x := by omega
    have fr := hV.2.2.1 x (by omega)
    unfold VRe at fr
    have s1 := sub1I fr.1 (by omega) (by omega)
    rw [ex] at g1
    have fr1 := fr.1
    rw [IV] at fr1
    have b1 := num_b g1
    have d0 : (0 : Int32).toInt = 0 := by decide
    by_cases q : Dup F 44 2 8 w0.1 w3
    · rw [if_pos q] at h; cases h
    rw [if_neg q] at h
    have e := Sum.inr.inj h
    rw [← e]
    refine VB_mark (G := (upd (upd (upd (upd F (44 + 3 * (F 8).toInt.toNat) w0.1) (44 + 3 * (F 8).toInt.toNat + 1) w1.1) (44 + 3 * (F 8).toInt.toNat + 2) w3) 8 (F 8 + 1))) (m := m) hB h12 hR hV hm (by omega) (by rw [upd_at, ein]) (fun i q1 q2 q3 => by rw [em, upd_ne (by omega), upd_ne (by omega), upd_ne (by omega), upd_ne (by omega)]) ?_ ?_
    · unfold VFr
      rw [em]
      have y0 : (upd (upd (upd (upd F (44 + 3 * m) w0.1) (44 + 3 * m + 1) w1.1) (44 + 3 * m + 2) w3) 8 (F 8 + 1)) (44 + 3 * m) = w0.1 := by rw [upd_ne (by omega), upd_ne (by omega), upd_ne (by omega), upd_at]
      rw [y0, ex, upd_ne (show 44 + 3 * m + 1 ≠ 8 by omega), upd_ne (show 44 + 3 * m + 1 ≠ 44 + 3 * m + 2 by omega), upd_at, upd_ne (show 16 + 3 * x ≠ 8 by omega), upd_ne (show 16 + 3 * x ≠ 44 + 3 * m + 2 by omega), upd_ne (show 16 + 3 * x ≠ 44 + 3 * m + 1 by omega), upd_ne (show 16 + 3 * x ≠ 44 + 3 * m by omega)]
      omega
    · rw [em, upd_ne (show 44 + 3 * m ≠ 8 by omega), upd_ne (show 44 + 3 * m ≠ 44 + 3 * m + 2 by omega), upd_ne (show 44 + 3 * m ≠ 44 + 3 * m + 1 by omega), upd_at, upd_ne (show 44 + 3 * m + 2 ≠ 8 by omega), upd_at]
      exact q
  rw [if_neg z3] at h
  by_cases z4 : IsW T n a "join"
  case pos =>
    rw [if_pos z4] at h
    obtain ⟨b, g, h⟩ := bnd_i h
    have lt := opn_i g
    have oc : (8 : Int32).toInt = 8 := by decide
    obtain ⟨m, hm⟩ : ∃ a : Nat, (F 9).toInt = a := ⟨(F 9).toInt.toNat, by omega⟩
    have em : (F 9).toInt.toNat = m := by omega
    have ein := inc_n hm (by omega)
    unfold joinS at h
    obtain ⟨w0, g0, h⟩ := bnd_i h
    obtain ⟨w1, g1, h⟩ := bnd_i h
    obtain ⟨w2, g2, h⟩ := bnd_i h
    have b2 := aft_b g2
    have d1 : (1 : Int32).toInt = 1 := by decide
    have d99 : (99 : Int32).toInt = 99 := by decide
    have e := Sum.inr.inj h
    rw [← e]
    refine VB_join (G := (upd (upd (upd F (80 + 2 * (F 9).toInt.toNat) w0.1) (80 + 2 * (F 9).toInt.toNat + 1) w2.1) 9 (F 9 + 1))) (m := m) hB h12 hR hV hm (by omega) (by rw [upd_at, ein]) (fun i q1 q2 q3 => by rw [em, upd_ne (by omega), upd_ne (by omega), upd_ne (by omega)]) ?_
    rw [em, upd_ne (by omega), upd_at, IV]
    omega
  rw [if_neg z4] at h
  by_cases z5 : IsW T n a "weak"
  case pos =>
    rw [if_pos z5] at h
    obtain ⟨b, g, h⟩ := bnd_i h
    have lt := opn_i g
    have oc : (6 : Int32).toInt = 6 := by decide
    obtain ⟨m, hm⟩ : ∃ a : Nat, (F 10).toInt = a := ⟨(F 10).toInt.toNat, by omega⟩
    have em : (F 10).toInt.toNat = m := by omega
    have ein := inc_n hm (by omega)
    unfold weakS at h
    obtain ⟨w0, g0, h⟩ := bnd_i h
    obtain ⟨w1, g1, h⟩ := bnd_i h
    have r1 := (reelP_inr g0).1
    have r2 := reelP_lt f1 g0
    rw [IV] at r1
    obtain ⟨x, hx⟩ : ∃ a : Nat, w0.1.toInt = a := ⟨w0.1.toInt.toNat, by omega⟩
    have ex : w0.1.toInt.toNat = x := by omega
    have fr := hV.2.2.1 x (by omega)
    unfold VRe at fr
    have s1 := sub1I fr.1 (by omega) (by omega)
    rw [ex] at g1
    have fr1 := fr.1
    rw [IV] at fr1
    have b1 := numH_b g1
    have d0 : (0 : Int32).toInt = 0 := by decide
    have d1 : (1 : Int32).toInt = 1 := by decide
    have d99 : (99 : Int32).toInt = 99 := by decide
    by_cases q : Dup F 96 1 10 w0.1 w1
    · rw [if_pos q] at h; cases h
    rw [if_neg q] at h
    obtain ⟨w2, g2, h⟩ := bnd_i h
    have b2 := aft_b g2
    have e := Sum.inr.inj h
    rw [← e]
    refine VB_weak (G := (upd (upd (upd (upd F (96 + 3 * (F 10).toInt.toNat) w0.1) (96 + 3 * (F 10).toInt.toNat + 1) w1) (96 + 3 * (F 10).toInt.toNat + 2) w2.1) 10 (F 10 + 1))) (m := m) hB h12 hR hV hm (by omega) (by rw [upd_at, ein]) (fun i q1 q2 q3 => by rw [em, upd_ne (by omega), upd_ne (by omega), upd_ne (by omega), upd_ne (by omega)]) ?_ ?_
    · unfold VFr
      rw [em]
      have y0 : (upd (upd (upd (upd F (96 + 3 * m) w0.1) (96 + 3 * m + 1) w1) (96 + 3 * m + 2) w2.1) 10 (F 10 + 1)) (96 + 3 * m) = w0.1 := by rw [upd_ne (by omega), upd_ne (by omega), upd_ne (by omega), upd_at]
      rw [y0, ex, upd_ne (show 96 + 3 * m + 1 ≠ 10 by omega), upd_ne (show 96 + 3 * m + 1 ≠ 96 + 3 * m + 2 by omega), upd_at, upd_ne (show 16 + 3 * x ≠ 10 by omega), upd_ne (show 16 + 3 * x ≠ 96 + 3 * m + 2 by omega), upd_ne (show 16 + 3 * x ≠ 96 + 3 * m + 1 by omega), upd_ne (show 16 + 3 * x ≠ 96 + 3 * m by omega)]
      omega
    · rw [em, upd_ne (by omega), upd_at, IV]
      omega
  rw [if_neg z5] at h
  by_cases z6 : IsW T n a "man"
  case pos =>
    rw [if_pos z6] at h
    obtain ⟨b, g, h⟩ := bnd_i h
    have lt := opn_i g
    have oc : (4 : Int32).toInt = 4 := by decide
    obtain ⟨m, hm⟩ : ∃ a : Nat, (F 11).toInt = a := ⟨(F 11).toInt.toNat, by omega⟩
    have em : (F 11).toInt.toNat = m := by omega
    have ein := inc_n hm (by omega)
    have d0 : (0 : Int32).toInt = 0 := by decide
    have d40 : (40 : Int32).toInt = 40 := by decide
    unfold manS at h
    obtain ⟨w0, g0, h⟩ := bnd_i h
    obtain ⟨n1, n2⟩ := new_inr g0
    by_cases q0 : IsW T n w0.2 "clean"
    case pos =>
      rw [if_pos q0] at h
      unfold manE at h
      obtain ⟨w9, g9, h⟩ := bnd_i h
      have b9 := aft_b g9
      have e := Sum.inr.inj h
      rw [← e]
      refine VB_man (G := (upd (upd (upd (upd w0.1 (114 + 3 * (F 11).toInt.toNat) 0) (114 + 3 * (F 11).toInt.toNat + 1) 0) (114 + 3 * (F 11).toInt.toNat + 2) w9.1) 11 (F 11 + 1))) (m := m) hB h12 hR hV hm (by omega) (by rw [upd_at, ein]) (fun i q1 q2 q3 => by rw [em, upd_ne (by omega), upd_ne (by omega), upd_ne (by omega), upd_ne (by omega), n1, wrN_lt (by omega)]) ?_ ?_
      · rw [em, upd_ne (by omega), upd_ne (by omega), upd_ne (by omega), upd_at]; decide
      · rw [em, upd_ne (by omega), upd_at, IV]; omega
    rw [if_neg q0] at h
    by_cases q1 : IsW T n w0.2 "early"
    case pos =>
      rw [if_pos q1] at h
      unfold manE at h
      obtain ⟨w9, g9, h⟩ := bnd_i h
      have b9 := aft_b g9
      have e := Sum.inr.inj h
      rw [← e]
      refine VB_man (G := (upd (upd (upd (upd w0.1 (114 + 3 * (F 11).toInt.toNat) 1) (114 + 3 * (F 11).toInt.toNat + 1) 0) (114 + 3 * (F 11).toInt.toNat + 2) w9.1) 11 (F 11 + 1))) (m := m) hB h12 hR hV hm (by omega) (by rw [upd_at, ein]) (fun i q1 q2 q3 => by rw [em, upd_ne (by omega), upd_ne (by omega), upd_ne (by omega), upd_ne (by omega), n1, wrN_lt (by omega)]) ?_ ?_
      · rw [em, upd_ne (by omega), upd_ne (by omega), upd_ne (by omega), upd_at]; decide
      · rw [em, upd_ne (by omega), upd_at, IV]; omega
    rw [if_neg q1] at h
    by_cases q2 : IsW T n w0.2 "late"
    case pos =>
      rw [if_pos q2] at h
      unfold manE at h
      obtain ⟨w9, g9, h⟩ := bnd_i h
      have b9 := aft_b g9
      have e := Sum.inr.inj h
      rw [← e]
      refine VB_man (G := (upd (upd (upd (upd w0.1 (114 + 3 * (F 11).toInt.toNat) 2) (114 + 3 * (F 11).toInt.toNat + 1) 0) (114 + 3 * (F 11).toInt.toNat + 2) w9.1) 11 (F 11 + 1))) (m := m) hB h12 hR hV hm (by omega) (by rw [upd_at, ein]) (fun i q1 q2 q3 => by rw [em, upd_ne (by omega), upd_ne (by omega), upd_ne (by omega), upd_ne (by omega), n1, wrN_lt (by omega)]) ?_ ?_
      · rw [em, upd_ne (by omega), upd_ne (by omega), upd_ne (by omega), upd_at]; decide
      · rw [em, upd_ne (by omega), upd_at, IV]; omega
    rw [if_neg q2] at h
    by_cases q3 : IsW T n w0.2 "misled"
    case neg => rw [if_neg q3] at h; cases h
    rw [if_pos q3] at h
    obtain ⟨tw, gt, h⟩ := bnd_i h
    unfold manE at h
    obtain ⟨w9, g9, h⟩ := bnd_i h
    have b9 := aft_b g9
    have e := Sum.inr.inj h
    rw [← e]
    refine VB_man (G := (upd (upd (upd (upd w0.1 (114 + 3 * (F 11).toInt.toNat) 3) (114 + 3 * (F 11).toInt.toNat + 1) tw) (114 + 3 * (F 11).toInt.toNat + 2) w9.1) 11 (F 11 + 1))) (m := m) hB h12 hR hV hm (by omega) (by rw [upd_at, ein]) (fun i q1 q2 q3 => by rw [em, upd_ne (by omega), upd_ne (by omega), upd_ne (by omega), upd_ne (by omega), n1, wrN_lt (by omega)]) ?_ ?_
    · rw [em, upd_ne (by omega), upd_ne (by omega), upd_ne (by omega), upd_at]; decide
    · rw [em, upd_ne (by omega), upd_at, IV]; omega
  rw [if_neg z6] at h
  by_cases z7 : IsW T n a "shows"
  case pos =>
    rw [if_pos z7] at h
    obtain ⟨b, g, h⟩ := bnd_i h
    have k0 := once_i g
    obtain ⟨s1, s2⟩ := shG_RV f1 9 0 F b v (by omega) (fun i _ => rfl) (fun k hk => by omega) h
    exact VB_shows hB h12 hR hV s1 k0 (shG_2 9 0 F b v (by omega) h)
  rw [if_neg z7] at h
  by_cases z8 : IsW T n a "boys"
  case pos =>
    rw [if_pos z8] at h
    obtain ⟨b, g, h⟩ := bnd_i h
    unfold boysS at h
    obtain ⟨w0, g0, h⟩ := bnd_i h
    obtain ⟨w1, g1, h⟩ := bnd_i h
    obtain ⟨w2, g2, h⟩ := bnd_i h
    have b0 := num_b g0
    have b1 := aft_b g1
    have b2 := aft_b g2
    have d0 : (0 : Int32).toInt = 0 := by decide
    have d1 : (1 : Int32).toInt = 1 := by decide
    have d4 : (4 : Int32).toInt = 4 := by decide
    have d2000 : (2000 : Int32).toInt = 2000 := by decide
    have d50 : (50 : Int32).toInt = 50 := by decide
    have e := Sum.inr.inj h
    rw [← e]
    refine VB_boys (G := (upd (upd (upd F 135 w1.1) 136 w2.1) 134 w0.1)) hB h12 hR hV (fun i q1 q2 q3 => by rw [upd_ne (by omega), upd_ne (by omega), upd_ne (by omega)]) ⟨?_, ?_, ?_⟩
    · rw [upd_at, IV]; omega
    · rw [upd_ne (by omega), upd_ne (by omega), upd_at, IV]; omega
    · rw [upd_ne (by omega), upd_at, IV]; omega
  rw [if_neg z8] at h
  by_cases z9 : IsW T n a "seen"
  case pos =>
    rw [if_pos z9] at h
    unfold seenS at h
    by_cases q : F 13 = 6
    · rw [if_pos q] at h; cases h
    rw [if_neg q] at h
    by_cases q2 : F 15 = 0
    · rw [if_pos q2] at h; cases h
    rw [if_neg q2] at h
    by_cases q3 : F 12 = 0
    · rw [if_pos q3] at h; cases h
    rw [if_neg q3] at h
    have o6 : (6 : Int32).toInt = 6 := by decide
    have n13 : (F 13).toInt ≠ 6 := fun w => q (Int32.toInt_inj.mp (by rw [w, o6]))
    obtain ⟨m, hm⟩ : ∃ a : Nat, (F 13).toInt = a := ⟨(F 13).toInt.toNat, by omega⟩
    have em : (F 13).toInt.toNat = m := by omega
    have ein := inc_n hm (by omega)
    obtain ⟨w0, g0, h⟩ := bnd_i h
    obtain ⟨w1, g1, h⟩ := bnd_i h
    obtain ⟨w2, g2, h⟩ := bnd_i h
    have b0 := num_b g0
    have b1 := aft_b g1
    have b2 := aft_b g2
    have d0 : (0 : Int32).toInt = 0 := by decide
    have d1 : (1 : Int32).toInt = 1 := by decide
    have d9999 : (9999 : Int32).toInt = 9999 := by decide
    have h12b := h12
    rw [IV] at h12b
    have s1 := sub1I h12 (by omega) (by omega)
    have e := Sum.inr.inj h
    rw [← e]
    refine VB_seen (G := (upd (upd (upd (upd F (137 + 3 * (F 13).toInt.toNat) w0.1) (137 + 3 * (F 13).toInt.toNat + 1) w1.1) (137 + 3 * (F 13).toInt.toNat + 2) w2.1) 13 (F 13 + 1))) (m := m) hB h12 hR hV hm (by omega) (by rw [upd_at, ein]) (fun i q1 q2 q3 => by rw [em, upd_ne (by omega), upd_ne (by omega), upd_ne (by omega), upd_ne (by omega)]) ?_
    unfold VSi IV
    rw [em, upd_ne (show 137 + 3 * m ≠ 13 by omega), upd_ne (show 137 + 3 * m ≠ 137 + 3 * m + 2 by omega), upd_ne (show 137 + 3 * m ≠ 137 + 3 * m + 1 by omega), upd_at, upd_ne (show 137 + 3 * m + 1 ≠ 13 by omega), upd_ne (show 137 + 3 * m + 1 ≠ 137 + 3 * m + 2 by omega), upd_at, upd_ne (show 137 + 3 * m + 2 ≠ 13 by omega), upd_at, upd_ne (show 12 ≠ 13 by omega), upd_ne (show 12 ≠ 137 + 3 * m + 2 by omega), upd_ne (show 12 ≠ 137 + 3 * m + 1 by omega), upd_ne (show 12 ≠ 137 + 3 * m by omega)]
    omega
  rw [if_neg z9] at h
  by_cases z10 : IsW T n a "scratch"
  case pos =>
    rw [if_pos z10] at h
    obtain ⟨b, g, h⟩ := bnd_i h
    have lt := opn_i g
    have oc : (6 : Int32).toInt = 6 := by decide
    obtain ⟨m, hm⟩ : ∃ a : Nat, (F 14).toInt = a := ⟨(F 14).toInt.toNat, by omega⟩
    have em : (F 14).toInt.toNat = m := by omega
    have ein := inc_n hm (by omega)
    unfold scratchS at h
    obtain ⟨w0, g0, h⟩ := bnd_i h
    obtain ⟨w1, g1, h⟩ := bnd_i h
    have r1 := (reelP_inr g0).1
    have r2 := reelP_lt f1 g0
    rw [IV] at r1
    obtain ⟨x, hx⟩ : ∃ a : Nat, w0.1.toInt = a := ⟨w0.1.toInt.toNat, by omega⟩
    have ex : w0.1.toInt.toNat = x := by omega
    have fr := hV.2.2.1 x (by omega)
    unfold VRe at fr
    have s1 := sub1I fr.1 (by omega) (by omega)
    rw [ex] at g1
    have fr1 := fr.1
    rw [IV] at fr1
    have b1 := num_b g1
    have d0 : (0 : Int32).toInt = 0 := by decide
    have e := Sum.inr.inj h
    rw [← e]
    refine VB_scratch (G := (upd (upd (upd F (155 + 2 * (F 14).toInt.toNat) w0.1) (155 + 2 * (F 14).toInt.toNat + 1) w1.1) 14 (F 14 + 1))) (m := m) hB h12 hR hV hm (by omega) (by rw [upd_at, ein]) (fun i q1 q2 q3 => by rw [em, upd_ne (by omega), upd_ne (by omega), upd_ne (by omega)]) ?_
    unfold VFr
    rw [em]
    have y0 : (upd (upd (upd F (155 + 2 * m) w0.1) (155 + 2 * m + 1) w1.1) 14 (F 14 + 1)) (155 + 2 * m) = w0.1 := by rw [upd_ne (by omega), upd_ne (by omega), upd_at]
    rw [y0, ex, upd_ne (show 155 + 2 * m + 1 ≠ 14 by omega), upd_at, upd_ne (show 16 + 3 * x ≠ 14 by omega), upd_ne (show 16 + 3 * x ≠ 155 + 2 * m + 1 by omega), upd_ne (show 16 + 3 * x ≠ 155 + 2 * m by omega)]
    omega
  rw [if_neg z10] at h
  cases h
def RV (F : Nat → Int32) : Prop := RV0 F ∧ VB F
theorem RV_line {F T : Nat → Int32} {n a : Int32} {v : (Nat → Int32) × Int32} (hB : FIv F) (h12 : IV (F 12) 0 8) (f1 : ∀ j : Nat, j < 8 → (F 6).toInt ≤ j → ¬ 0 < (F (167 + j)).toInt) (f2 : ∀ j : Nat, j < 4 → (F 7).toInt ≤ j → ¬ 0 < (F (175 + j)).toInt) (hR : RV F) (h : lineS F T n a = .inr v) : RV v.1 := ⟨RV0_line hB h12 f1 f2 hR.1 h, VB_line hB h12 f1 f2 hR.1 hR.2 h⟩
theorem VB_0 {F : Nat → Int32} (hF : ∀ i : Nat, i < 167 → F i = 0) : VB F := by
  have z : ∀ i : Nat, i < 167 → ∀ b : Int, 0 ≤ b → IV (F i) 0 b := fun i hi b hb => by rw [hF i hi, IV, zI]; omega
  have no : ∀ i : Nat, i < 167 → ∀ k : Nat, ¬ (k : Int) < (F i).toInt := fun i hi k => by rw [hF i hi, zI]; omega
  exact ⟨⟨z 0 (by first | decide | omega) _ (by omega), z 1 (by first | decide | omega) _ (by omega), z 2 (by first | decide | omega) _ (by omega), z 3 (by first | decide | omega) _ (by omega), z 4 (by first | decide | omega) _ (by omega), z 5 (by first | decide | omega) _ (by omega)⟩, ⟨z 134 (by first | decide | omega) _ (by omega), z 135 (by first | decide | omega) _ (by omega), z 136 (by first | decide | omega) _ (by omega), Or.inl (by rw [hF 12 (by first | decide | omega), zI])⟩, fun k hk => (no 6 (by first | decide | omega) k hk).elim, fun k hk => (no 7 (by first | decide | omega) k hk).elim, fun k hk => (no 8 (by first | decide | omega) k hk).elim, fun k hk => (no 9 (by first | decide | omega) k hk).elim, fun k hk => (no 10 (by first | decide | omega) k hk).elim, fun k hk => (no 11 (by first | decide | omega) k hk).elim, fun k hk => (no 13 (by first | decide | omega) k hk).elim, fun k hk => (no 14 (by first | decide | omega) k hk).elim, fun i _ hi _ _ _ => (no 8 (by first | decide | omega) i hi).elim⟩
