set_option maxRecDepth 100000
set_option maxHeartbeats 4000000
/-- what is read ends no earlier than it begins -/
def Up {α : Type} (p : α → Int32) (a : Int32) (σ : Rs α) : Prop := ∀ v : α, σ = .inr v → a.toInt ≤ (p v).toInt ∧ IV (p v) 0 900
theorem up_l {α : Type} {p : α → Int32} {a : Int32} {e : Int32 × Int32} : Up p a (.inl e) := fun v h => by cases h
theorem up_r {α : Type} {p : α → Int32} {a : Int32} {v : α} (h1 : IV (p v) 0 900) (h2 : a.toInt ≤ (p v).toInt) : Up p a (.inr v) := fun w h => by
  have := Sum.inr.inj h; subst this; exact ⟨h2, h1⟩
theorem up_rp {α : Type} {x : α} {a b : Int32} (h1 : IV b 0 900) (h2 : a.toInt ≤ b.toInt) : Up Prod.snd a (.inr (x, b)) := up_r (p := Prod.snd) h1 h2
theorem up_le {α : Type} {p : α → Int32} {a b : Int32} {σ : Rs α} (h : a.toInt ≤ b.toInt) (hu : Up p b σ) : Up p a σ := fun v q => ⟨by have := (hu v q).1; omega, (hu v q).2⟩
theorem up_bnd {α β : Type} {p : α → Int32} {q : β → Int32} {a : Int32} {x : Rs α} {f : α → Rs β} (hx : Up p a x) (hf : ∀ u : α, IV (p u) 0 900 → Up q (p u) (f u)) : Up q a (bnd x f) := by
  intro v h
  cases x with
  | inl e => rw [bnd_l] at h; cases h
  | inr u =>
    rw [bnd_r] at h
    have h1 := hx u rfl
    have h2 := hf u h1.2 v h
    exact ⟨by omega, h2.2⟩
theorem up_bnd0 {α β : Type} {q : β → Int32} {a : Int32} {x : Rs α} {f : α → Rs β} (hf : ∀ u : α, Up q a (f u)) : Up q a (bnd x f) := by
  intro v h
  cases x with
  | inl e => rw [bnd_l] at h; cases h
  | inr u => rw [bnd_r] at h; exact hf u v h
theorem up_ite {α : Type} {p : α → Int32} {a : Int32} {c : Prop} {d : Decidable c} {x y : Rs α} (hx : Up p a x) (hy : Up p a y) : Up p a (@ite _ c d x y) := by
  by_cases q : c
  · rw [if_pos q]; exact hx
  · rw [if_neg q]; exact hy
theorem nx_ge {T : Nat → Int32} {n a : Int32} (hn : IV n 0 900) (ha : IV a 0 900) : a.toInt ≤ (nx T n a).toInt := by
  have h1 := ed_iv (T := T) hn ha
  have := rn_ge (T := T) (k := 5) hn (by decide) (ed_iv' (T := T) hn ha)
  unfold nx
  omega
theorem nx_semi {T : Nat → Int32} {n a : Int32} (hn : IV n 0 900) (ha : IV a 0 900) (h : tkF T n a = 3) : a.toInt < n.toInt ∧ a.toInt < (nx T n a).toInt := by
  have k1 : kc (lookF T n a) ≠ 1 := fun q => by unfold tkF at h; rw [if_pos q] at h; split at h <;> exact absurd h (by decide)
  have k2 : kc (lookF T n a) ≠ 2 := fun q => by unfold tkF at h; rw [if_neg k1, if_pos q] at h; split at h <;> exact absurd h (by decide)
  have k3 : kc (lookF T n a) = 3 := by unfold tkF at h; rw [if_neg k1, if_neg k2] at h; exact h
  have k0 : kc (lookF T n a) ≠ 0 := by rw [k3]; decide
  have l := (look_in k0).1
  have e := inc1 (u := a) (z := a + 1) (a := 0) (b := 900) ha (by have := hn.2; omega) (by omega) rfl
  have d : edF T n a = a + 1 := by unfold edF; rw [if_neg k1, if_neg k2, if_neg k0]
  have := rn_ge (T := T) (k := 5) hn (by decide) (ed_iv' (T := T) hn ha)
  refine ⟨l, ?_⟩
  unfold nx
  rw [d] at this ⊢
  omega
theorem up_nx {T : Nat → Int32} {n a : Int32} (hn : IV n 0 900) (ha : IV a 0 900) : Up id a (.inr (nx T n a)) := up_r (nx_iv hn ha) (nx_ge hn ha)
theorem up_at {α : Type} {F : α} {b : Int32} (hb : IV b 0 900) : Up Prod.snd b (.inr (F, b)) := up_r hb (Int.le_refl _)
theorem up_lab {T : Nat → Int32} {n a : Int32} {w : String} (hn : IV n 0 900) (ha : IV a 0 900) : Up id a (labS T n w a) := up_ite (up_nx hn ha) up_l
theorem up_num {T : Nat → Int32} {n lo hi a : Int32} (hn : IV n 0 900) (ha : IV a 0 900) : Up Prod.snd a (numS T n lo hi a) := up_bnd0 (fun u => up_rp (nx_iv hn ha) (nx_ge hn ha))
theorem up_aft {T : Nat → Int32} {n lo hi a : Int32} {w : String} (hn : IV n 0 900) (ha : IV a 0 900) : Up Prod.snd a (aftS T n w lo hi a) := up_bnd (up_lab hn ha) (fun u hu => up_num hn hu)
theorem up_new {F T : Nat → Int32} {n a : Int32} {s : Nat} (hn : IV n 0 900) (ha : IV a 0 900) : Up Prod.snd a (newS F T n s a) := up_ite (up_ite (up_rp (nx_iv hn ha) (nx_ge hn ha)) up_l) up_l
theorem up_reel {F T : Nat → Int32} {n a : Int32} (hn : IV n 0 900) (ha : IV a 0 900) : Up Prod.snd a (reelP F T n a) := up_bnd0 (fun u => up_rp (nx_iv hn ha) (nx_ge hn ha))
theorem up_opn {F T : Nat → Int32} {n p a : Int32} (hn : IV n 0 900) (ha : IV a 0 900) : Up id a (opnS F T n p a) := up_ite up_l (up_ite up_l (up_nx hn ha))
theorem up_once {F T : Nat → Int32} {n p a : Int32} (hn : IV n 0 900) (ha : IV a 0 900) : Up id a (onceS F T n p a) := up_ite (up_ite up_l (up_nx hn ha)) up_l
theorem up_house {F T : Nat → Int32} {n a : Int32} (hn : IV n 0 900) (ha : IV a 0 900) : Up Prod.snd a (houseS F T n a) :=
  up_ite up_l (up_le (nx_ge hn ha) (up_bnd (up_aft hn (nx_iv hn ha)) (fun u1 h1 => up_bnd (up_aft hn h1) (fun u2 h2 => up_bnd (up_aft hn h2) (fun u3 h3 => up_bnd (up_aft hn h3) (fun u4 h4 => up_bnd (up_aft hn h4) (fun u5 h5 => up_bnd (up_aft hn h5) (fun u6 h6 => up_at h6))))))))
theorem up_reelS {F T : Nat → Int32} {n a : Int32} (hn : IV n 0 900) (ha : IV a 0 900) : Up Prod.snd a (reelS F T n a) :=
  up_bnd (up_new hn ha) (fun u1 h1 => up_bnd (up_aft hn h1) (fun u2 h2 => up_bnd (up_aft hn h2) (fun u3 h3 => up_bnd (up_aft hn h3) (fun u4 h4 => up_at h4))))
theorem up_townS {F T : Nat → Int32} {n a : Int32} (hn : IV n 0 900) (ha : IV a 0 900) : Up Prod.snd a (townS F T n a) :=
  up_bnd (up_new hn ha) (fun u1 h1 => up_bnd (up_aft hn h1) (fun u4 h4 => up_at h4))
theorem up_boysS {F T : Nat → Int32} {n a : Int32} (hn : IV n 0 900) (ha : IV a 0 900) : Up Prod.snd a (boysS F T n a) :=
  up_bnd (up_num hn ha) (fun u1 h1 => up_bnd (up_aft hn h1) (fun u2 h2 => up_bnd (up_aft hn h2) (fun u4 h4 => up_at h4)))
theorem up_seenS {F T : Nat → Int32} {n a : Int32} (hn : IV n 0 900) (ha : IV a 0 900) : Up Prod.snd a (seenS F T n a) :=
  up_ite up_l (up_ite up_l (up_ite up_l (up_le (nx_ge hn ha) (up_bnd (up_num hn (nx_iv hn ha)) (fun u1 h1 => up_bnd (up_aft hn h1) (fun u2 h2 => up_bnd (up_aft hn h2) (fun u4 h4 => up_at h4)))))))
theorem up_joinS {F T : Nat → Int32} {n a : Int32} (hn : IV n 0 900) (ha : IV a 0 900) : Up Prod.snd a (joinS F T n a) :=
  up_bnd (up_reel hn ha) (fun u1 h1 => up_bnd (up_num hn h1) (fun u2 h2 => up_bnd (up_aft hn h2) (fun u4 h4 => up_at h4)))
theorem up_scratchS {F T : Nat → Int32} {n a : Int32} (hn : IV n 0 900) (ha : IV a 0 900) : Up Prod.snd a (scratchS F T n a) :=
  up_bnd (up_reel hn ha) (fun u1 h1 => up_bnd (up_num hn h1) (fun u4 h4 => up_at h4))
theorem up_markS {F T : Nat → Int32} {n a : Int32} (hn : IV n 0 900) (ha : IV a 0 900) : Up Prod.snd a (markS F T n a) :=
  up_bnd (up_reel hn ha) (fun u1 h1 => up_bnd (up_num hn h1) (fun u2 h2 => up_bnd (up_lab hn h2) (fun b hb => up_bnd0 (fun tw => up_ite up_l (up_rp (nx_iv hn hb) (nx_ge hn hb))))))
theorem up_weakS {F T : Nat → Int32} {n a : Int32} (hn : IV n 0 900) (ha : IV a 0 900) : Up Prod.snd a (weakS F T n a) :=
  up_bnd (up_reel hn ha) (fun u1 h1 => up_bnd0 (fun fr => up_ite up_l (up_le (nx_ge hn h1) (up_bnd (up_aft hn (nx_iv hn h1)) (fun u4 h4 => up_at h4)))))
theorem up_manE {F0 T : Nat → Int32} {n kind town c a : Int32} {s : Nat} (hn : IV n 0 900) (ha : IV a 0 900) : Up Prod.snd a (manE F0 T n s kind town c a) :=
  up_bnd (up_aft hn ha) (fun u4 h4 => up_at h4)
theorem up_manS {F T : Nat → Int32} {n a : Int32} (hn : IV n 0 900) (ha : IV a 0 900) : Up Prod.snd a (manS F T n a) :=
  up_bnd (up_new hn ha) (fun u1 h1 => up_ite (up_le (nx_ge hn h1) (up_manE hn (nx_iv hn h1))) (up_ite (up_le (nx_ge hn h1) (up_manE hn (nx_iv hn h1))) (up_ite (up_le (nx_ge hn h1) (up_manE hn (nx_iv hn h1))) (up_ite (up_bnd0 (fun tw => up_le (nx_ge hn h1) (up_le (nx_ge hn (nx_iv hn h1)) (up_manE hn (nx_iv hn (nx_iv hn h1)))))) up_l))))
theorem up_showE {F T : Nat → Int32} {n b : Int32} {m : Nat} (hb : IV b 0 900) : Up Prod.snd b (showE T n m F b) := up_ite (up_ite up_l (up_ite up_l up_l)) (up_at hb)
theorem up_showG {T : Nat → Int32} {n : Int32} (hn : IV n 0 900) : ∀ (g m : Nat) (F : Nat → Int32) (a : Int32), IV a 0 900 → Up Prod.snd a (showG T n g m F a) := by
  intro g
  induction g with
  | zero => intro m F a _; rw [showG]; exact up_l
  | succ g ih =>
    intro m F a ha
    rw [showG]
    have i1 := nx_iv (T := T) hn ha
    have i2 := nx_iv (T := T) hn i1
    exact up_bnd0 (fun r => up_ite up_l (up_ite (up_le (nx_ge hn ha) (up_le (nx_ge hn i1) (ih _ _ _ i2))) (up_le (nx_ge hn ha) (up_showE i1))))
theorem up_line {F T : Nat → Int32} {n a : Int32} (hn : IV n 0 900) (ha : IV a 0 900) : Up Prod.snd a (lineS F T n a) := by
  unfold lineS
  refine up_ite (up_house hn ha) (up_ite (up_bnd (up_opn hn ha) (fun u h => up_reelS hn h)) (up_ite (up_bnd (up_opn hn ha) (fun u h => up_townS hn h)) (up_ite (up_bnd (up_opn hn ha) (fun u h => up_markS hn h)) (up_ite (up_bnd (up_opn hn ha) (fun u h => up_joinS hn h)) (up_ite (up_bnd (up_opn hn ha) (fun u h => up_weakS hn h)) (up_ite (up_bnd (up_opn hn ha) (fun u h => up_manS hn h)) (up_ite (up_bnd (up_once hn ha) (fun u h => up_showG hn 9 0 F u h)) (up_ite (up_bnd (up_once hn ha) (fun u h => up_boysS hn h)) (up_ite (up_seenS hn ha) (up_ite (up_bnd (up_opn hn ha) (fun u h => up_scratchS hn h)) up_l))))))))))
/-- a whole text from the token at a: a fault, or what has been read -/
def TxR (T : Nat → Int32) (n : Int32) : Nat → (Nat → Int32) → Int32 → Rs ((Nat → Int32) × Int32) → Prop
  | 0, _, _, _ => False
  | k + 1, F, a, ρ => FIv F ∧ ((∃ e : Int32 × Int32, lineS F T n a = .inl e ∧ ρ = .inl e) ∨ (∃ v : (Nat → Int32) × Int32, lineS F T n a = .inr v ∧ ((tkF T n v.2 = 3 ∧ TxR T n k v.1 (nx T n v.2) ρ) ∨ (tkF T n v.2 = 0 ∧ ((v.1 12 = 0 ∨ v.1 11 = 0) ∧ ρ = .inl (6, v.2) ∨ (v.1 15 ≠ 0 ∧ v.1 12 ≠ 0 ∧ v.1 11 ≠ 0) ∧ ρ = .inr v)) ∨ (tkF T n v.2 ≠ 3 ∧ tkF T n v.2 ≠ 0 ∧ ρ = .inl (1, v.2)))))

theorem bnd_i {α β : Type} {x : Rs α} {f : α → Rs β} {v : β} (h : bnd x f = .inr v) : ∃ a : α, x = .inr a ∧ f a = .inr v := by
  cases x with
  | inl e => cases h
  | inr a => exact ⟨a, rfl, h⟩
theorem opn_i {F T : Nat → Int32} {n c x a b : Int32} (h : opnS F T n (bcap c x) a = .inr b) : x.toInt < c.toInt := by
  unfold opnS bcap at h
  by_cases q : c ≤ x
  · rw [if_pos q, if_pos rfl] at h; cases h
  · rw [le_I] at q; omega
def Lt (F : Nat → Int32) (x y : Nat) : Prop := 0 ≤ (F x).toInt ∧ (F x).toInt < (F y).toInt
def RC (F : Nat → Int32) (c b w y : Nat) : Prop := ∀ k : Nat, (k : Int) < (F c).toInt → Lt F (b + w * k) y
def RV (F : Nat → Int32) : Prop := RC F 8 44 3 6 ∧ RC F 8 46 3 7 ∧ RC F 9 80 2 6 ∧ RC F 10 96 3 6 ∧ RC F 12 126 1 6 ∧ RC F 14 155 2 6 ∧ (∀ k : Nat, (k : Int) < (F 11).toInt → F (114 + 3 * k) = 3 → Lt F (114 + 3 * k + 1) 7)
theorem RC_keep {F G : Nat → Int32} {c b w y cap : Nat} (h : RC F c b w y) (hc : G c = F c) (hcap : (F c).toInt ≤ cap) (gy : (F y).toInt ≤ (G y).toInt) (K : ∀ i : Nat, b ≤ i → i < b + w * cap + 1 - w → G i = F i) : RC G c b w y := by
  intro k hk
  rw [hc] at hk
  have h1 : w * k + w ≤ w * cap := by
    have : w * (k + 1) ≤ w * cap := Nat.mul_le_mul_left w (by omega)
    rw [Nat.mul_add, Nat.mul_one] at this
    exact this
  obtain ⟨a1, a2⟩ := h k hk
  unfold Lt
  rw [K _ (by omega) (by omega)]
  exact ⟨a1, by omega⟩
theorem RC_add {F G : Nat → Int32} {c b w y m : Nat} (hw : 1 ≤ w) (h : RC F c b w y) (hm : (F c).toInt = m) (hc : (G c).toInt = m + 1) (gy : (F y).toInt ≤ (G y).toInt) (K : ∀ i : Nat, b ≤ i → i < b + w * m + 1 - w → G i = F i) (hn : Lt G (b + w * m) y) : RC G c b w y := by
  intro k hk
  by_cases q : k = m
  · subst q; exact hn
  · have h1 : w * k + w ≤ w * m := by
      have : w * (k + 1) ≤ w * m := Nat.mul_le_mul_left w (by omega)
      rw [Nat.mul_add, Nat.mul_one] at this
      exact this
    obtain ⟨a1, a2⟩ := h k (by omega)
    unfold Lt
    rw [K _ (by omega) (by omega)]
    exact ⟨a1, by omega⟩
theorem old_lt {F T : Nat → Int32} {n a : Int32} {v : Int32} (hf : ∀ j : Nat, j < 4 → (F 7).toInt ≤ j → ¬ 0 < (F (175 + j)).toInt) (h : oldS F T n 8 11 a = .inr v) : 0 ≤ v.toInt ∧ v.toInt < (F 7).toInt := by
  unfold oldS at h
  by_cases ok : NameOk T n a
  · rw [if_pos ok] at h
    by_cases q1 : findS F T n a < 8
    · rw [if_pos q1] at h; cases h
    · rw [if_neg q1] at h
      by_cases q2 : (11 : Int32) < findS F T n a
      · rw [if_pos q2] at h; cases h
      · rw [if_neg q2] at h
        have e := Sum.inr.inj h
        have o8 : (8 : Int32).toInt = 8 := by decide
        have o11 : (11 : Int32).toInt = 11 := by decide
        rw [lt_I, o8] at q1
        rw [lt_I, o11] at q2
        obtain ⟨i, i1, i2, i3⟩ := findG_at (F := F) (T := T) (n := n) (a := a) 16 0 (by first | decide | omega) (fun w => by
          have : findS F T n a < 0 := w
          rw [lt_I, zI] at this; omega)
        have i2 : findS F T n a = nI i := i2
        rw [i2, nIt (by omega)] at q1 q2
        rw [i2] at e
        have ev : v.toInt = i - 8 := by rw [← e, subI (by rw [nIt (by omega), o8]; omega) (by rw [nIt (by omega), o8]; omega), nIt (by omega), o8]
        refine ⟨by omega, ?_⟩
        by_cases q : (F 7).toInt ≤ ((i - 8 : Nat) : Int)
        · have := hf (i - 8) (by omega) q
          rw [show 175 + (i - 8) = 167 + i by omega] at this
          exact absurd i3.1 this
        · omega
  · rw [if_neg ok] at h; cases h
theorem RV_keep {F G : Nat → Int32} (hB : FIv F) (h12 : IV (F 12) 0 8) (hR : RV F) (gy6 : (F 6).toInt ≤ (G 6).toInt) (gy7 : (F 7).toInt ≤ (G 7).toInt) (K : ∀ i : Nat, (i = 8 ∨ i = 9 ∨ i = 10 ∨ i = 11 ∨ i = 12 ∨ i = 14 ∨ (44 ≤ i ∧ i < 134) ∨ (155 ≤ i ∧ i < 167)) → G i = F i) : RV G := by
  obtain ⟨c1, c2, c3, c4, c5, c6, c7⟩ := hR
  exact ⟨RC_keep (cap := 12) c1 (K 8 (by first | decide | omega)) hB.2.2.1.2 (gy6) (fun i q1 q2 => K i (by omega)), RC_keep (cap := 12) c2 (K 8 (by first | decide | omega)) hB.2.2.1.2 (gy7) (fun i q1 q2 => K i (by omega)), RC_keep (cap := 8) c3 (K 9 (by first | decide | omega)) hB.2.2.2.1.2 (gy6) (fun i q1 q2 => K i (by omega)), RC_keep (cap := 6) c4 (K 10 (by first | decide | omega)) hB.2.2.2.2.1.2 (gy6) (fun i q1 q2 => K i (by omega)), RC_keep (cap := 8) c5 (K 12 (by first | decide | omega)) h12.2 (gy6) (fun i q1 q2 => K i (by omega)), RC_keep (cap := 6) c6 (K 14 (by first | decide | omega)) hB.2.2.2.2.2.2.2.2 (gy6) (fun i q1 q2 => K i (by omega)), (fun k hk q => by have j11 : (F 11).toInt ≤ 4 := hB.2.2.2.2.2.1.2; rw [K 11 (by first | decide | omega)] at hk; rw [K (114 + 3 * k) (by omega)] at q; have := c7 k hk q; unfold Lt at this ⊢; rw [K (114 + 3 * k + 1) (by omega)]; exact ⟨this.1, by omega⟩)⟩
theorem RV_mark {F G : Nat → Int32} {m : Nat} (hB : FIv F) (h12 : IV (F 12) 0 8) (hR : RV F) (hm : (F 8).toInt = m) (lt : m < 12) (KX : (G 8).toInt = m + 1) (KS : ∀ i : Nat, i < 167 → i ≠ 8 → (i < 44 + 3 * m ∨ 44 + 3 * m + 3 ≤ i) → G i = F i) (k1 : Lt G (44 + 3 * m) 6) (k2 : Lt G (44 + 3 * m + 2) 7) : RV G := by
  obtain ⟨c1, c2, c3, c4, c5, c6, c7⟩ := hR
  have gy6 : (F 6).toInt ≤ (G 6).toInt := by rw [KS 6 (by first | decide | omega) (by first | decide | omega) (by first | decide | omega)]; exact Int.le_refl _
  have gy7 : (F 7).toInt ≤ (G 7).toInt := by rw [KS 7 (by first | decide | omega) (by first | decide | omega) (by first | decide | omega)]; exact Int.le_refl _
  exact ⟨RC_add (m := m) (by omega) c1 hm KX (gy6) (fun i q1 q2 => KS i (by omega) (by omega) (by omega)) k1, RC_add (m := m) (by omega) c2 hm KX (gy7) (fun i q1 q2 => KS i (by omega) (by omega) (by omega)) (by have := k2; rw [show 44 + 3 * m + 2 = 46 + 3 * m by omega] at this; exact this), RC_keep (cap := 8) c3 (KS 9 (by first | decide | omega) (by first | decide | omega) (by first | decide | omega)) hB.2.2.2.1.2 (gy6) (fun i q1 q2 => KS i (by omega) (by omega) (by omega)), RC_keep (cap := 6) c4 (KS 10 (by first | decide | omega) (by first | decide | omega) (by first | decide | omega)) hB.2.2.2.2.1.2 (gy6) (fun i q1 q2 => KS i (by omega) (by omega) (by omega)), RC_keep (cap := 8) c5 (KS 12 (by first | decide | omega) (by first | decide | omega) (by first | decide | omega)) h12.2 (gy6) (fun i q1 q2 => KS i (by omega) (by omega) (by omega)), RC_keep (cap := 6) c6 (KS 14 (by first | decide | omega) (by first | decide | omega) (by first | decide | omega)) hB.2.2.2.2.2.2.2.2 (gy6) (fun i q1 q2 => KS i (by omega) (by omega) (by omega)), (fun k hk q => by have j11 : (F 11).toInt ≤ 4 := hB.2.2.2.2.2.1.2; rw [KS 11 (by first | decide | omega) (by first | decide | omega) (by first | decide | omega)] at hk; rw [KS (114 + 3 * k) (by omega) (by omega) (by omega)] at q; have := c7 k hk q; unfold Lt at this ⊢; rw [KS (114 + 3 * k + 1) (by omega) (by omega) (by omega)]; exact ⟨this.1, by omega⟩)⟩
theorem RV_join {F G : Nat → Int32} {m : Nat} (hB : FIv F) (h12 : IV (F 12) 0 8) (hR : RV F) (hm : (F 9).toInt = m) (lt : m < 8) (KX : (G 9).toInt = m + 1) (KS : ∀ i : Nat, i < 167 → i ≠ 9 → (i < 80 + 2 * m ∨ 80 + 2 * m + 2 ≤ i) → G i = F i) (k1 : Lt G (80 + 2 * m) 6) : RV G := by
  obtain ⟨c1, c2, c3, c4, c5, c6, c7⟩ := hR
  have gy6 : (F 6).toInt ≤ (G 6).toInt := by rw [KS 6 (by first | decide | omega) (by first | decide | omega) (by first | decide | omega)]; exact Int.le_refl _
  have gy7 : (F 7).toInt ≤ (G 7).toInt := by rw [KS 7 (by first | decide | omega) (by first | decide | omega) (by first | decide | omega)]; exact Int.le_refl _
  exact ⟨RC_keep (cap := 12) c1 (KS 8 (by first | decide | omega) (by first | decide | omega) (by first | decide | omega)) hB.2.2.1.2 (gy6) (fun i q1 q2 => KS i (by omega) (by omega) (by omega)), RC_keep (cap := 12) c2 (KS 8 (by first | decide | omega) (by first | decide | omega) (by first | decide | omega)) hB.2.2.1.2 (gy7) (fun i q1 q2 => KS i (by omega) (by omega) (by omega)), RC_add (m := m) (by omega) c3 hm KX (gy6) (fun i q1 q2 => KS i (by omega) (by omega) (by omega)) k1, RC_keep (cap := 6) c4 (KS 10 (by first | decide | omega) (by first | decide | omega) (by first | decide | omega)) hB.2.2.2.2.1.2 (gy6) (fun i q1 q2 => KS i (by omega) (by omega) (by omega)), RC_keep (cap := 8) c5 (KS 12 (by first | decide | omega) (by first | decide | omega) (by first | decide | omega)) h12.2 (gy6) (fun i q1 q2 => KS i (by omega) (by omega) (by omega)), RC_keep (cap := 6) c6 (KS 14 (by first | decide | omega) (by first | decide | omega) (by first | decide | omega)) hB.2.2.2.2.2.2.2.2 (gy6) (fun i q1 q2 => KS i (by omega) (by omega) (by omega)), (fun k hk q => by have j11 : (F 11).toInt ≤ 4 := hB.2.2.2.2.2.1.2; rw [KS 11 (by first | decide | omega) (by first | decide | omega) (by first | decide | omega)] at hk; rw [KS (114 + 3 * k) (by omega) (by omega) (by omega)] at q; have := c7 k hk q; unfold Lt at this ⊢; rw [KS (114 + 3 * k + 1) (by omega) (by omega) (by omega)]; exact ⟨this.1, by omega⟩)⟩
theorem RV_weak {F G : Nat → Int32} {m : Nat} (hB : FIv F) (h12 : IV (F 12) 0 8) (hR : RV F) (hm : (F 10).toInt = m) (lt : m < 6) (KX : (G 10).toInt = m + 1) (KS : ∀ i : Nat, i < 167 → i ≠ 10 → (i < 96 + 3 * m ∨ 96 + 3 * m + 3 ≤ i) → G i = F i) (k1 : Lt G (96 + 3 * m) 6) : RV G := by
  obtain ⟨c1, c2, c3, c4, c5, c6, c7⟩ := hR
  have gy6 : (F 6).toInt ≤ (G 6).toInt := by rw [KS 6 (by first | decide | omega) (by first | decide | omega) (by first | decide | omega)]; exact Int.le_refl _
  have gy7 : (F 7).toInt ≤ (G 7).toInt := by rw [KS 7 (by first | decide | omega) (by first | decide | omega) (by first | decide | omega)]; exact Int.le_refl _
  exact ⟨RC_keep (cap := 12) c1 (KS 8 (by first | decide | omega) (by first | decide | omega) (by first | decide | omega)) hB.2.2.1.2 (gy6) (fun i q1 q2 => KS i (by omega) (by omega) (by omega)), RC_keep (cap := 12) c2 (KS 8 (by first | decide | omega) (by first | decide | omega) (by first | decide | omega)) hB.2.2.1.2 (gy7) (fun i q1 q2 => KS i (by omega) (by omega) (by omega)), RC_keep (cap := 8) c3 (KS 9 (by first | decide | omega) (by first | decide | omega) (by first | decide | omega)) hB.2.2.2.1.2 (gy6) (fun i q1 q2 => KS i (by omega) (by omega) (by omega)), RC_add (m := m) (by omega) c4 hm KX (gy6) (fun i q1 q2 => KS i (by omega) (by omega) (by omega)) k1, RC_keep (cap := 8) c5 (KS 12 (by first | decide | omega) (by first | decide | omega) (by first | decide | omega)) h12.2 (gy6) (fun i q1 q2 => KS i (by omega) (by omega) (by omega)), RC_keep (cap := 6) c6 (KS 14 (by first | decide | omega) (by first | decide | omega) (by first | decide | omega)) hB.2.2.2.2.2.2.2.2 (gy6) (fun i q1 q2 => KS i (by omega) (by omega) (by omega)), (fun k hk q => by have j11 : (F 11).toInt ≤ 4 := hB.2.2.2.2.2.1.2; rw [KS 11 (by first | decide | omega) (by first | decide | omega) (by first | decide | omega)] at hk; rw [KS (114 + 3 * k) (by omega) (by omega) (by omega)] at q; have := c7 k hk q; unfold Lt at this ⊢; rw [KS (114 + 3 * k + 1) (by omega) (by omega) (by omega)]; exact ⟨this.1, by omega⟩)⟩
theorem RV_scratch {F G : Nat → Int32} {m : Nat} (hB : FIv F) (h12 : IV (F 12) 0 8) (hR : RV F) (hm : (F 14).toInt = m) (lt : m < 6) (KX : (G 14).toInt = m + 1) (KS : ∀ i : Nat, i < 167 → i ≠ 14 → (i < 155 + 2 * m ∨ 155 + 2 * m + 2 ≤ i) → G i = F i) (k1 : Lt G (155 + 2 * m) 6) : RV G := by
  obtain ⟨c1, c2, c3, c4, c5, c6, c7⟩ := hR
  have gy6 : (F 6).toInt ≤ (G 6).toInt := by rw [KS 6 (by first | decide | omega) (by first | decide | omega) (by first | decide | omega)]; exact Int.le_refl _
  have gy7 : (F 7).toInt ≤ (G 7).toInt := by rw [KS 7 (by first | decide | omega) (by first | decide | omega) (by first | decide | omega)]; exact Int.le_refl _
  exact ⟨RC_keep (cap := 12) c1 (KS 8 (by first | decide | omega) (by first | decide | omega) (by first | decide | omega)) hB.2.2.1.2 (gy6) (fun i q1 q2 => KS i (by omega) (by omega) (by omega)), RC_keep (cap := 12) c2 (KS 8 (by first | decide | omega) (by first | decide | omega) (by first | decide | omega)) hB.2.2.1.2 (gy7) (fun i q1 q2 => KS i (by omega) (by omega) (by omega)), RC_keep (cap := 8) c3 (KS 9 (by first | decide | omega) (by first | decide | omega) (by first | decide | omega)) hB.2.2.2.1.2 (gy6) (fun i q1 q2 => KS i (by omega) (by omega) (by omega)), RC_keep (cap := 6) c4 (KS 10 (by first | decide | omega) (by first | decide | omega) (by first | decide | omega)) hB.2.2.2.2.1.2 (gy6) (fun i q1 q2 => KS i (by omega) (by omega) (by omega)), RC_keep (cap := 8) c5 (KS 12 (by first | decide | omega) (by first | decide | omega) (by first | decide | omega)) h12.2 (gy6) (fun i q1 q2 => KS i (by omega) (by omega) (by omega)), RC_add (m := m) (by omega) c6 hm KX (gy6) (fun i q1 q2 => KS i (by omega) (by omega) (by omega)) k1, (fun k hk q => by have j11 : (F 11).toInt ≤ 4 := hB.2.2.2.2.2.1.2; rw [KS 11 (by first | decide | omega) (by first | decide | omega) (by first | decide | omega)] at hk; rw [KS (114 + 3 * k) (by omega) (by omega) (by omega)] at q; have := c7 k hk q; unfold Lt at this ⊢; rw [KS (114 + 3 * k + 1) (by omega) (by omega) (by omega)]; exact ⟨this.1, by omega⟩)⟩
theorem RV_man {F G : Nat → Int32} {m : Nat} (hB : FIv F) (h12 : IV (F 12) 0 8) (hR : RV F) (hm : (F 11).toInt = m) (lt : m < 4) (KX : (G 11).toInt = m + 1) (KS : ∀ i : Nat, i < 167 → i ≠ 11 → (i < 114 + 3 * m ∨ 114 + 3 * m + 3 ≤ i) → G i = F i) (k1 : G (114 + 3 * m) = 3 → Lt G (114 + 3 * m + 1) 7) : RV G := by
  obtain ⟨c1, c2, c3, c4, c5, c6, c7⟩ := hR
  have gy6 : (F 6).toInt ≤ (G 6).toInt := by rw [KS 6 (by first | decide | omega) (by first | decide | omega) (by first | decide | omega)]; exact Int.le_refl _
  have gy7 : (F 7).toInt ≤ (G 7).toInt := by rw [KS 7 (by first | decide | omega) (by first | decide | omega) (by first | decide | omega)]; exact Int.le_refl _
  refine ⟨RC_keep (cap := 12) c1 (KS 8 (by first | decide | omega) (by first | decide | omega) (by first | decide | omega)) hB.2.2.1.2 (gy6) (fun i q1 q2 => KS i (by omega) (by omega) (by omega)), RC_keep (cap := 12) c2 (KS 8 (by first | decide | omega) (by first | decide | omega) (by first | decide | omega)) hB.2.2.1.2 (gy7) (fun i q1 q2 => KS i (by omega) (by omega) (by omega)), RC_keep (cap := 8) c3 (KS 9 (by first | decide | omega) (by first | decide | omega) (by first | decide | omega)) hB.2.2.2.1.2 (gy6) (fun i q1 q2 => KS i (by omega) (by omega) (by omega)), RC_keep (cap := 6) c4 (KS 10 (by first | decide | omega) (by first | decide | omega) (by first | decide | omega)) hB.2.2.2.2.1.2 (gy6) (fun i q1 q2 => KS i (by omega) (by omega) (by omega)), RC_keep (cap := 8) c5 (KS 12 (by first | decide | omega) (by first | decide | omega) (by first | decide | omega)) h12.2 (gy6) (fun i q1 q2 => KS i (by omega) (by omega) (by omega)), RC_keep (cap := 6) c6 (KS 14 (by first | decide | omega) (by first | decide | omega) (by first | decide | omega)) hB.2.2.2.2.2.2.2.2 (gy6) (fun i q1 q2 => KS i (by omega) (by omega) (by omega)), fun k hk q => ?_⟩
  by_cases w : k = m
  · subst w; exact k1 q
  · rw [KS (114 + 3 * k) (by omega) (by omega) (by omega)] at q
    have := c7 k (by omega) q
    unfold Lt at this ⊢
    rw [KS (114 + 3 * k + 1) (by omega) (by omega) (by omega)]
    exact ⟨this.1, by omega⟩
theorem RV_shows {F G : Nat → Int32} (hB : FIv F) (h12 : IV (F 12) 0 8) (hR : RV F) (K : ∀ i : Nat, i ≠ 12 → (i < 126 ∨ 133 < i) → G i = F i) (k1 : RC G 12 126 1 6) : RV G := by
  obtain ⟨c1, c2, c3, c4, c5, c6, c7⟩ := hR
  have gy6 : (F 6).toInt ≤ (G 6).toInt := by rw [K 6 (by first | decide | omega) (by first | decide | omega)]; exact Int.le_refl _
  have gy7 : (F 7).toInt ≤ (G 7).toInt := by rw [K 7 (by first | decide | omega) (by first | decide | omega)]; exact Int.le_refl _
  exact ⟨RC_keep (cap := 12) c1 (K 8 (by first | decide | omega) (by first | decide | omega)) hB.2.2.1.2 (gy6) (fun i q1 q2 => K i (by omega) (by omega)), RC_keep (cap := 12) c2 (K 8 (by first | decide | omega) (by first | decide | omega)) hB.2.2.1.2 (gy7) (fun i q1 q2 => K i (by omega) (by omega)), RC_keep (cap := 8) c3 (K 9 (by first | decide | omega) (by first | decide | omega)) hB.2.2.2.1.2 (gy6) (fun i q1 q2 => K i (by omega) (by omega)), RC_keep (cap := 6) c4 (K 10 (by first | decide | omega) (by first | decide | omega)) hB.2.2.2.2.1.2 (gy6) (fun i q1 q2 => K i (by omega) (by omega)), k1, RC_keep (cap := 6) c6 (K 14 (by first | decide | omega) (by first | decide | omega)) hB.2.2.2.2.2.2.2.2 (gy6) (fun i q1 q2 => K i (by omega) (by omega)), (fun k hk q => by have j11 : (F 11).toInt ≤ 4 := hB.2.2.2.2.2.1.2; rw [K 11 (by first | decide | omega) (by first | decide | omega)] at hk; rw [K (114 + 3 * k) (by omega) (by omega)] at q; have := c7 k hk q; unfold Lt at this ⊢; rw [K (114 + 3 * k + 1) (by omega) (by omega)]; exact ⟨this.1, by omega⟩)⟩
