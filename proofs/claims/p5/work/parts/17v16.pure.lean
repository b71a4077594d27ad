set_option maxRecDepth 100000
set_option maxHeartbeats 4000000
/-- what is read ends no earlier than it begins -/
def Up {α : Type} (p : α → Int32) (a : Int32) (σ : Rs α) : Prop := ∀ v : α, σ = .inr v → a.toInt ≤ (p v).toInt ∧ IV (p v) 0 900
theorem up_l {α : Type} {p : α → Int32} {a : Int32} {e : Int32 × Int32} : Up p a (.inl e) := fun v h => by cases h
theorem up_r {α : Type} {p : α → Int32} {a : Int32} {v : α} (h1 : IV (p v) 0 900) (h2 : a.toInt ≤ (p v).toInt) : Up p a (.inr v) := fun w h => by
  have := Sum.inr.inj h; subst this; exact ⟨h2, h1⟩
theorem up_le {α : Type} {p : α → Int32} {a b : Int32} {σ : Rs α} (h : a.toInt ≤ b.toInt) (hu : Up p b σ) : Up p a σ := fun v q => ⟨by have := (hu v q).1; omega, (hu v q).2⟩
theorem up_bnd {α β : Type} {p : α → Int32} {q : β → Int32} {a : Int32} {x : Rs α} {f : α → Rs β} (hx : Up p a x) (hf : ∀ u : α, IV (p u) 0 900 → Up q (p u) (f u)) : Up q a (bnd x f) := by
  intro v h
  cases x with
  | inl e => rw [bnd_l] at h; cases h
  | inr u =>
    rw [bnd_r] at h
    have h1 := hx u rfl
    have h2 := hf u h1.2 v h
    exact ⟨by omega, h2.2⟩
theorem up_bnd0 {α β : Type} {q : β → Int32} {a : Int32} {x : Rs α} {f : α → Rs β} (hf : ∀ u : α, Up q a (f u)) : Up q a (bnd x f) := by
  intro v h
  cases x with
  | inl e => rw [bnd_l] at h; cases h
  | inr u => rw [bnd_r] at h; exact hf u v h
theorem up_ite {α : Type} {p : α → Int32} {a : Int32} {c : Prop} {d : Decidable c} {x y : Rs α} (hx : Up p a x) (hy : Up p a y) : Up p a (@ite _ c d x y) := by
  by_cases q : c
  · rw [if_pos q]; exact hx
  · rw [if_neg q]; exact hy
theorem nx_ge {T : Nat → Int32} {n a : Int32} (hn : IV n 0 900) (ha : IV a 0 900) : a.toInt ≤ (nx T n a).toInt := by
  have h1 := ed_iv (T := T) hn ha
  have := rn_ge (T := T) (k := 5) hn (by decide) (ed_iv' (T := T) hn ha)
  unfold nx
  omega
theorem nx_semi {T : Nat → Int32} {n a : Int32} (hn : IV n 0 900) (ha : IV a 0 900) (h : tkF T n a = 3) : a.toInt < n.toInt ∧ a.toInt < (nx T n a).toInt := by
  have k1 : kc (lookF T n a) ≠ 1 := fun q => by unfold tkF at h; rw [if_pos q] at h; split at h <;> exact absurd h (by decide)
  have k2 : kc (lookF T n a) ≠ 2 := fun q => by unfold tkF at h; rw [if_neg k1, if_pos q] at h; split at h <;> exact absurd h (by decide)
  have k3 : kc (lookF T n a) = 3 := by unfold tkF at h; rw [if_neg k1, if_neg k2] at h; exact h
  have k0 : kc (lookF T n a) ≠ 0 := by rw [k3]; decide
  have l := (look_in k0).1
  have e := inc1 (u := a) (z := a + 1) (a := 0) (b := 900) ha (by have := hn.2; omega) (by omega) rfl
  have d : edF T n a = a + 1 := by unfold edF; rw [if_neg k1, if_neg k2, if_neg k0]
  have := rn_ge (T := T) (k := 5) hn (by decide) (ed_iv' (T := T) hn ha)
  refine ⟨l, ?_⟩
  unfold nx
  rw [d] at this ⊢
  omega
theorem up_nx {T : Nat → Int32} {n a : Int32} (hn : IV n 0 900) (ha : IV a 0 900) : Up id a (.inr (nx T n a)) := up_r (nx_iv hn ha) (nx_ge hn ha)
theorem up_at {α : Type} {F : α} {b : Int32} (hb : IV b 0 900) : Up Prod.snd b (.inr (F, b)) := up_r hb (Int.le_refl _)
theorem up_lab {T : Nat → Int32} {n a : Int32} {w : String} (hn : IV n 0 900) (ha : IV a 0 900) : Up id a (labS T n w a) := up_ite (up_nx hn ha) up_l
theorem up_num {T : Nat → Int32} {n lo hi a : Int32} (hn : IV n 0 900) (ha : IV a 0 900) : Up Prod.snd a (numS T n lo hi a) := up_bnd0 (fun u => up_r (p := Prod.snd) (nx_iv hn ha) (nx_ge hn ha))
theorem up_aft {T : Nat → Int32} {n lo hi a : Int32} {w : String} (hn : IV n 0 900) (ha : IV a 0 900) : Up Prod.snd a (aftS T n w lo hi a) := up_bnd (up_lab hn ha) (fun u hu => up_num hn hu)
theorem up_new {F T : Nat → Int32} {n a : Int32} {s : Nat} (hn : IV n 0 900) (ha : IV a 0 900) : Up Prod.snd a (newS F T n s a) := up_ite (up_ite (up_r (p := Prod.snd) (nx_iv hn ha) (nx_ge hn ha)) up_l) up_l
theorem up_reel {F T : Nat → Int32} {n a : Int32} (hn : IV n 0 900) (ha : IV a 0 900) : Up Prod.snd a (reelP F T n a) := up_bnd0 (fun u => up_r (p := Prod.snd) (nx_iv hn ha) (nx_ge hn ha))
theorem up_opn {F T : Nat → Int32} {n p a : Int32} (hn : IV n 0 900) (ha : IV a 0 900) : Up id a (opnS F T n p a) := up_ite up_l (up_ite up_l (up_nx hn ha))
theorem up_once {F T : Nat → Int32} {n p a : Int32} (hn : IV n 0 900) (ha : IV a 0 900) : Up id a (onceS F T n p a) := up_ite (up_ite up_l (up_nx hn ha)) up_l
theorem up_house {F T : Nat → Int32} {n a : Int32} (hn : IV n 0 900) (ha : IV a 0 900) : Up Prod.snd a (houseS F T n a) :=
  up_ite up_l (up_le (nx_ge hn ha) (up_bnd (up_aft hn (nx_iv hn ha)) (fun u1 h1 => up_bnd (up_aft hn h1) (fun u2 h2 => up_bnd (up_aft hn h2) (fun u3 h3 => up_bnd (up_aft hn h3) (fun u4 h4 => up_bnd (up_aft hn h4) (fun u5 h5 => up_bnd (up_aft hn h5) (fun u6 h6 => up_at h6))))))))
theorem up_reelS {F T : Nat → Int32} {n a : Int32} (hn : IV n 0 900) (ha : IV a 0 900) : Up Prod.snd a (reelS F T n a) :=
  up_bnd (up_new hn ha) (fun u1 h1 => up_bnd (up_aft hn h1) (fun u2 h2 => up_bnd (up_aft hn h2) (fun u3 h3 => up_bnd (up_aft hn h3) (fun u4 h4 => up_at h4))))
theorem up_townS {F T : Nat → Int32} {n a : Int32} (hn : IV n 0 900) (ha : IV a 0 900) : Up Prod.snd a (townS F T n a) :=
  up_bnd (up_new hn ha) (fun u1 h1 => up_bnd (up_aft hn h1) (fun u4 h4 => up_at h4))
theorem up_boysS {F T : Nat → Int32} {n a : Int32} (hn : IV n 0 900) (ha : IV a 0 900) : Up Prod.snd a (boysS F T n a) :=
  up_bnd (up_num hn ha) (fun u1 h1 => up_bnd (up_aft hn h1) (fun u2 h2 => up_bnd (up_aft hn h2) (fun u4 h4 => up_at h4)))
theorem up_seenS {F T : Nat → Int32} {n a : Int32} (hn : IV n 0 900) (ha : IV a 0 900) : Up Prod.snd a (seenS F T n a) :=
  up_ite up_l (up_ite up_l (up_ite up_l (up_le (nx_ge hn ha) (up_bnd (up_num hn (nx_iv hn ha)) (fun u1 h1 => up_bnd (up_aft hn h1) (fun u2 h2 => up_bnd (up_aft hn h2) (fun u4 h4 => up_at h4)))))))
theorem up_joinS {F T : Nat → Int32} {n a : Int32} (hn : IV n 0 900) (ha : IV a 0 900) : Up Prod.snd a (joinS F T n a) :=
  up_bnd (up_reel hn ha) (fun u1 h1 => up_bnd (up_num hn h1) (fun u2 h2 => up_bnd (up_aft hn h2) (fun u4 h4 => up_at h4)))
theorem up_scratchS {F T : Nat → Int32} {n a : Int32} (hn : IV n 0 900) (ha : IV a 0 900) : Up Prod.snd a (scratchS F T n a) :=
  up_bnd (up_reel hn ha) (fun u1 h1 => up_bnd (up_num hn h1) (fun u4 h4 => up_at h4))
theorem up_markS {F T : Nat → Int32} {n a : Int32} (hn : IV n 0 900) (ha : IV a 0 900) : Up Prod.snd a (markS F T n a) :=
  up_bnd (up_reel hn ha) (fun u1 h1 => up_bnd (up_num hn h1) (fun u2 h2 => up_bnd (up_lab hn h2) (fun b hb => up_bnd0 (fun tw => up_ite up_l (up_r (p := Prod.snd) (nx_iv hn hb) (nx_ge hn hb))))))
theorem up_weakS {F T : Nat → Int32} {n a : Int32} (hn : IV n 0 900) (ha : IV a 0 900) : Up Prod.snd a (weakS F T n a) :=
  up_bnd (up_reel hn ha) (fun u1 h1 => up_bnd0 (fun fr => up_ite up_l (up_le (nx_ge hn h1) (up_bnd (up_aft hn (nx_iv hn h1)) (fun u4 h4 => up_at h4)))))
theorem up_manE {F0 T : Nat → Int32} {n kind town c a : Int32} {s : Nat} (hn : IV n 0 900) (ha : IV a 0 900) : Up Prod.snd a (manE F0 T n s kind town c a) :=
  up_bnd (up_aft hn ha) (fun u4 h4 => up_at h4)
theorem up_manS {F T : Nat → Int32} {n a : Int32} (hn : IV n 0 900) (ha : IV a 0 900) : Up Prod.snd a (manS F T n a) :=
  up_bnd (up_new hn ha) (fun u1 h1 => up_ite (up_le (nx_ge hn h1) (up_manE hn (nx_iv hn h1))) (up_ite (up_le (nx_ge hn h1) (up_manE hn (nx_iv hn h1))) (up_ite (up_le (nx_ge hn h1) (up_manE hn (nx_iv hn h1))) (up_ite (up_bnd0 (fun tw => up_le (nx_ge hn h1) (up_le (nx_ge hn (nx_iv hn h1)) (up_manE hn (nx_iv hn (nx_iv hn h1)))))) up_l))))
theorem up_showE {F T : Nat → Int32} {n b : Int32} {m : Nat} (hb : IV b 0 900) : Up Prod.snd b (showE T n m F b) := up_ite (up_ite up_l (up_ite up_l up_l)) (up_at hb)
theorem up_showG {T : Nat → Int32} {n : Int32} (hn : IV n 0 900) : ∀ (g m : Nat) (F : Nat → Int32) (a : Int32), IV a 0 900 → Up Prod.snd a (showG T n g m F a) := by
  intro g
  induction g with
  | zero => intro m F a _; rw [showG]; exact up_l
  | succ g ih =>
    intro m F a ha
    rw [showG]
    have i1 := nx_iv (T := T) hn ha
    have i2 := nx_iv (T := T) hn i1
    exact up_bnd0 (fun r => up_ite up_l (up_ite (up_le (nx_ge hn ha) (up_le (nx_ge hn i1) (ih _ _ _ i2))) (up_le (nx_ge hn ha) (up_showE i1))))
theorem up_line {F T : Nat → Int32} {n a : Int32} (hn : IV n 0 900) (ha : IV a 0 900) : Up Prod.snd a (lineS F T n a) := by
  unfold lineS
  refine up_ite (up_house hn ha) (up_ite (up_bnd (up_opn hn ha) (fun u h => up_reelS hn h)) (up_ite (up_bnd (up_opn hn ha) (fun u h => up_townS hn h)) (up_ite (up_bnd (up_opn hn ha) (fun u h => up_markS hn h)) (up_ite (up_bnd (up_opn hn ha) (fun u h => up_joinS hn h)) (up_ite (up_bnd (up_opn hn ha) (fun u h => up_weakS hn h)) (up_ite (up_bnd (up_opn hn ha) (fun u h => up_manS hn h)) (up_ite (up_bnd (up_once hn ha) (fun u h => up_showG hn 9 0 F u h)) (up_ite (up_bnd (up_once hn ha) (fun u h => up_boysS hn h)) (up_ite (up_seenS hn ha) (up_ite (up_bnd (up_opn hn ha) (fun u h => up_scratchS hn h)) up_l))))))))))
/-- a whole text from the token at a: a fault, or what has been read -/
def TxR (T : Nat → Int32) (n : Int32) : Nat → (Nat → Int32) → Int32 → Rs ((Nat → Int32) × Int32) → Prop
  | 0, _, _, _ => False
  | k + 1, F, a, ρ => FIv F ∧ ((∃ e : Int32 × Int32, lineS F T n a = .inl e ∧ ρ = .inl e) ∨ (∃ v : (Nat → Int32) × Int32, lineS F T n a = .inr v ∧ ((tkF T n v.2 = 3 ∧ TxR T n k v.1 (nx T n v.2) ρ) ∨ (tkF T n v.2 = 0 ∧ ((v.1 12 = 0 ∨ v.1 11 = 0) ∧ ρ = .inl (6, v.2) ∨ (v.1 15 ≠ 0 ∧ v.1 12 ≠ 0 ∧ v.1 11 ≠ 0) ∧ ρ = .inr v)) ∨ (tkF T n v.2 ≠ 3 ∧ tkF T n v.2 ≠ 0 ∧ ρ = .inl (1, v.2)))))

theorem qx_isFollowed {tp ndf qrf qmf qwf qpf qhnf qhtf qhjf qhmf qhbf qhsf qhcf ndg qrg qmg qwg qpg qhng qhtg qhjg qhmg qhbg qhsg qhcg F T : Nat → Int32} {nmf nmg : Nat → Int64} {le le2 : Int64} {fn fp n kd sta po va tk ta ndn qmd qtr qrn qmn qwn qpn qhnn qhtn qhjn qhmn qhbn qhsn qhcn fn2 fp2 kd2 sta2 po2 va2 tk2 ta2 ndk qrk qmk qwk qpk qmd2 qtr2 qhnk qhtk qhjk qhmk qhbk qhsk qhck r a : Int32} (hn : IV n 0 900) (ht : TpR tp T) (hs : XS T n a kd sta po va le) (h : R_x_isFollowedX fn fp n kd sta po va le tk ta tp nmf ndn ndf qmd qtr qrn qrf qmn qmf qwn qwf qpn qpf qhnn qhnf qhtn qhtf qhjn qhjf qhmn qhmf qhbn qhbf qhsn qhsf qhcn qhcf fn2 fp2 kd2 sta2 po2 va2 le2 tk2 ta2 nmg ndg ndk qrg qmg qwg qpg qrk qmk qwk qpk qmd2 qtr2 qhng qhtg qhjg qhmg qhbg qhsg qhcg qhnk qhtk qhjk qhmk qhbk qhsk qhck r) : (tkF T n a = 3 ∧ r = 1 ∧ fn2 = fn ∧ fp2 = fp ∧ XS T n (nx T n a) kd2 sta2 po2 va2 le2 ∧ tk2 = tk ∧ ta2 = ta ∧ nmg = nmf ∧ ndk = ndn ∧ ndg = ndf ∧ qmd2 = qmd ∧ qtr2 = qtr ∧ qrk = qrn ∧ qrg = qrf ∧ qmk = qmn ∧ qmg = qmf ∧ qwk = qwn ∧ qwg = qwf ∧ qpk = qpn ∧ qpg = qpf ∧ qhnk = qhnn ∧ qhng = qhnf ∧ qhtk = qhtn ∧ qhtg = qhtf ∧ qhjk = qhjn ∧ qhjg = qhjf ∧ qhmk = qhmn ∧ qhmg = qhmf ∧ qhbk = qhbn ∧ qhbg = qhbf ∧ qhsk = qhsn ∧ qhsg = qhsf ∧ qhck = qhcn ∧ qhcg = qhcf) ∨ (tkF T n a = 0 ∧ ((qpn = 0 ∨ qhmn = 0) ∧ r = 0 ∧ fn2 = 6 ∧ fp2 = a ∨ (qpn ≠ 0 ∧ qhmn ≠ 0) ∧ r = 0 ∧ fn2 = fn ∧ fp2 = fp ∧ tk2 = tk ∧ ta2 = ta ∧ nmg = nmf ∧ ndk = ndn ∧ ndg = ndf ∧ qmd2 = qmd ∧ qtr2 = qtr ∧ qrk = qrn ∧ qrg = qrf ∧ qmk = qmn ∧ qmg = qmf ∧ qwk = qwn ∧ qwg = qwf ∧ qpk = qpn ∧ qpg = qpf ∧ qhnk = qhnn ∧ qhng = qhnf ∧ qhtk = qhtn ∧ qhtg = qhtf ∧ qhjk = qhjn ∧ qhjg = qhjf ∧ qhmk = qhmn ∧ qhmg = qhmf ∧ qhbk = qhbn ∧ qhbg = qhbf ∧ qhsk = qhsn ∧ qhsg = qhsf ∧ qhck = qhcn ∧ qhcg = qhcf)) ∨ (tkF T n a ≠ 3 ∧ tkF T n a ≠ 0 ∧ r = 0 ∧ fn2 = 1 ∧ fp2 = a) := by
  unfold R_x_isFollowedX at h
  have sa := hs.1
  have e1 : kd = tkF T n a := hs.2.2.1
  have keep : ∀ {A : Prop}, A → A := fun h => h
  rcases h with ⟨h3, h⟩ | ⟨h3, h⟩
  · have q3 : ¬ tkF T n a = 3 := fun q => h3 (e1.trans q)
    rcases h with ⟨h0, h⟩ | ⟨h0, h⟩
    · have q0 : tkF T n a = 0 := e1.symm.trans h0
      refine Or.inr (Or.inl ⟨q0, ?_⟩)
      rcases h with ⟨hp, f1, p1, r1, ⟨b1, b2, b3⟩, h⟩ | ⟨hp, h⟩
      · exact Or.inl ⟨Or.inl hp, by rw [h.2.2.2.2.2.2.2.2.2.2.2.2.2.2.2.2.2.2.2.2.2.2.2.2.2.2.2.2.2.2.2.2.2.2.2.2, b3], by rw [h.1, b1], by rw [h.2.1, b2, sa]⟩
      · rcases h with ⟨hm, h⟩ | ⟨hm, f1, p1, r1, ⟨b1, b2, b3⟩, h⟩
        · exact Or.inr ⟨⟨hp, hm⟩, h.2.2.2.2.2.2.2.2.2.2.2.2.2.2.2.2.2.2.2.2.2.2.2.2.2.2.2.2.2.2.2.2.2.2.2.2, h.1, h.2.1, h.2.2.2.2.2.2.2.1, h.2.2.2.2.2.2.2.2.1, h.2.2.2.2.2.2.2.2.2.1, h.2.2.2.2.2.2.2.2.2.2.2.1, h.2.2.2.2.2.2.2.2.2.2.1, h.2.2.2.2.2.2.2.2.2.2.2.2.2.2.2.2.2.2.2.2.1, h.2.2.2.2.2.2.2.2.2.2.2.2.2.2.2.2.2.2.2.2.2.1, h.2.2.2.2.2.2.2.2.2.2.2.2.2.2.2.2.1, h.2.2.2.2.2.2.2.2.2.2.2.2.1, h.2.2.2.2.2.2.2.2.2.2.2.2.2.2.2.2.2.1, h.2.2.2.2.2.2.2.2.2.2.2.2.2.1, h.2.2.2.2.2.2.2.2.2.2.2.2.2.2.2.2.2.2.1, h.2.2.2.2.2.2.2.2.2.2.2.2.2.2.1, h.2.2.2.2.2.2.2.2.2.2.2.2.2.2.2.2.2.2.2.1, h.2.2.2.2.2.2.2.2.2.2.2.2.2.2.2.1, h.2.2.2.2.2.2.2.2.2.2.2.2.2.2.2.2.2.2.2.2.2.2.2.2.2.2.2.2.2.1, h.2.2.2.2.2.2.2.2.2.2.2.2.2.2.2.2.2.2.2.2.2.2.1, h.2.2.2.2.2.2.2.2.2.2.2.2.2.2.2.2.2.2.2.2.2.2.2.2.2.2.2.2.2.2.1, h.2.2.2.2.2.2.2.2.2.2.2.2.2.2.2.2.2.2.2.2.2.2.2.1, h.2.2.2.2.2.2.2.2.2.2.2.2.2.2.2.2.2.2.2.2.2.2.2.2.2.2.2.2.2.2.2.1, h.2.2.2.2.2.2.2.2.2.2.2.2.2.2.2.2.2.2.2.2.2.2.2.2.1, h.2.2.2.2.2.2.2.2.2.2.2.2.2.2.2.2.2.2.2.2.2.2.2.2.2.2.2.2.2.2.2.2.1, h.2.2.2.2.2.2.2.2.2.2.2.2.2.2.2.2.2.2.2.2.2.2.2.2.2.1, h.2.2.2.2.2.2.2.2.2.2.2.2.2.2.2.2.2.2.2.2.2.2.2.2.2.2.2.2.2.2.2.2.2.1, h.2.2.2.2.2.2.2.2.2.2.2.2.2.2.2.2.2.2.2.2.2.2.2.2.2.2.1, h.2.2.2.2.2.2.2.2.2.2.2.2.2.2.2.2.2.2.2.2.2.2.2.2.2.2.2.2.2.2.2.2.2.2.1, h.2.2.2.2.2.2.2.2.2.2.2.2.2.2.2.2.2.2.2.2.2.2.2.2.2.2.2.1, h.2.2.2.2.2.2.2.2.2.2.2.2.2.2.2.2.2.2.2.2.2.2.2.2.2.2.2.2.2.2.2.2.2.2.2.1, h.2.2.2.2.2.2.2.2.2.2.2.2.2.2.2.2.2.2.2.2.2.2.2.2.2.2.2.2.1⟩
        · exact Or.inl ⟨Or.inr hm, by rw [h.2.2.2.2.2.2.2.2.2.2.2.2.2.2.2.2.2.2.2.2.2.2.2.2.2.2.2.2.2.2.2.2.2.2.2.2, b3], by rw [h.1, b1], by rw [h.2.1, b2, sa]⟩
    · obtain ⟨f1, p1, r1, ⟨b1, b2, b3⟩, h⟩ := h
      exact Or.inr (Or.inr ⟨q3, fun q => h0 (e1.trans q), by rw [h.2.2.2.2.2.2.2.2.2.2.2.2.2.2.2.2.2.2.2.2.2.2.2.2.2.2.2.2.2.2.2.2.2.2.2.2, b3], by rw [h.1, b1], by rw [h.2.1, b2, sa]⟩)
  · obtain ⟨k1, s1, p1, v1, l1, hx, h⟩ := h
    have xs := x_next_at hn ht hs hx
    refine Or.inl ⟨e1.symm.trans h3, h.2.2.2.2.2.2.2.2.2.2.2.2.2.2.2.2.2.2.2.2.2.2.2.2.2.2.2.2.2.2.2.2.2.2.2.2, h.1, h.2.1, ?_, h.2.2.2.2.2.2.2.1, h.2.2.2.2.2.2.2.2.1, h.2.2.2.2.2.2.2.2.2.1, h.2.2.2.2.2.2.2.2.2.2.2.1, h.2.2.2.2.2.2.2.2.2.2.1, h.2.2.2.2.2.2.2.2.2.2.2.2.2.2.2.2.2.2.2.2.1, h.2.2.2.2.2.2.2.2.2.2.2.2.2.2.2.2.2.2.2.2.2.1, h.2.2.2.2.2.2.2.2.2.2.2.2.2.2.2.2.1, h.2.2.2.2.2.2.2.2.2.2.2.2.1, h.2.2.2.2.2.2.2.2.2.2.2.2.2.2.2.2.2.1, h.2.2.2.2.2.2.2.2.2.2.2.2.2.1, h.2.2.2.2.2.2.2.2.2.2.2.2.2.2.2.2.2.2.1, h.2.2.2.2.2.2.2.2.2.2.2.2.2.2.1, h.2.2.2.2.2.2.2.2.2.2.2.2.2.2.2.2.2.2.2.1, h.2.2.2.2.2.2.2.2.2.2.2.2.2.2.2.1, h.2.2.2.2.2.2.2.2.2.2.2.2.2.2.2.2.2.2.2.2.2.2.2.2.2.2.2.2.2.1, h.2.2.2.2.2.2.2.2.2.2.2.2.2.2.2.2.2.2.2.2.2.2.1, h.2.2.2.2.2.2.2.2.2.2.2.2.2.2.2.2.2.2.2.2.2.2.2.2.2.2.2.2.2.2.1, h.2.2.2.2.2.2.2.2.2.2.2.2.2.2.2.2.2.2.2.2.2.2.2.1, h.2.2.2.2.2.2.2.2.2.2.2.2.2.2.2.2.2.2.2.2.2.2.2.2.2.2.2.2.2.2.2.1, h.2.2.2.2.2.2.2.2.2.2.2.2.2.2.2.2.2.2.2.2.2.2.2.2.1, h.2.2.2.2.2.2.2.2.2.2.2.2.2.2.2.2.2.2.2.2.2.2.2.2.2.2.2.2.2.2.2.2.1, h.2.2.2.2.2.2.2.2.2.2.2.2.2.2.2.2.2.2.2.2.2.2.2.2.2.1, h.2.2.2.2.2.2.2.2.2.2.2.2.2.2.2.2.2.2.2.2.2.2.2.2.2.2.2.2.2.2.2.2.2.1, h.2.2.2.2.2.2.2.2.2.2.2.2.2.2.2.2.2.2.2.2.2.2.2.2.2.2.1, h.2.2.2.2.2.2.2.2.2.2.2.2.2.2.2.2.2.2.2.2.2.2.2.2.2.2.2.2.2.2.2.2.2.2.1, h.2.2.2.2.2.2.2.2.2.2.2.2.2.2.2.2.2.2.2.2.2.2.2.2.2.2.2.1, h.2.2.2.2.2.2.2.2.2.2.2.2.2.2.2.2.2.2.2.2.2.2.2.2.2.2.2.2.2.2.2.2.2.2.2.1, h.2.2.2.2.2.2.2.2.2.2.2.2.2.2.2.2.2.2.2.2.2.2.2.2.2.2.2.2.1⟩
    rw [h.2.2.1, h.2.2.2.1, h.2.2.2.2.1, h.2.2.2.2.2.1, h.2.2.2.2.2.2.1]
    exact xs
theorem HRel_no {F : Nat → Int32} {ndn qrn qmn qwn qpn qhnn qhtn qhjn qhmn qhbn qhsn qhcn : Int32} {nmf : Nat → Int64} {ndf qrf qmf qwf : Nat → Int32} (hH : HRel F ndn nmf ndf qrn qrf qmn qmf qwn qwf qpn qhnn qhtn qhjn qhmn qhbn qhsn qhcn) (h : F 15 = 0) : F 12 = 0 := by
  obtain ⟨-, -, -, -, -, -, -, -, -, -, -, -, -, g1, -⟩ := hH
  exact (g1 h).2.2.2.2.2.2.1
def XR (ρ : Rs ((Nat → Int32) × Int32)) (fn2 fp2 : Int32) (H : (Nat → Int32) → Prop) : Prop := match ρ with
  | .inl e => fn2 = e.1 ∧ fp2 = e.2
  | .inr v => fn2 = 0 ∧ fp2 = 0 ∧ H v.1
theorem qx_read0 {T tp : Nat → Int32} {n : Int32} {fn2 fp2 kd2 sta2 po2 va2 : Int32} {le2 : Int64} {tk2 ta2 : Int32} {nmg : Nat → Int64} {ndg : Nat → Int32} {ndk : Int32} {qrg qmg qwg qpg : Nat → Int32} {qrk qmk qwk qpk qmd2 qtr2 : Int32} {qhng qhtg qhjg qhmg qhbg qhsg qhcg : Nat → Int32} {qhnk qhtk qhjk qhmk qhbk qhsk qhck : Int32} (hn : IV n 0 900) (ht : TpR tp T) : ∀ (f : Nat) (F : Nat → Int32) (a lines : Int32) (fn fp kd sta po va : Int32) (le : Int64) (tk ta : Int32) (nmf : Nat → Int64) (ndn : Int32) (ndf : Nat → Int32) (qmd qtr qrn : Int32) (qrf : Nat → Int32) (qmn : Int32) (qmf : Nat → Int32) (qwn : Int32) (qwf : Nat → Int32) (qpn : Int32) (qpf : Nat → Int32) (qhnn : Int32) (qhnf : Nat → Int32) (qhtn : Int32) (qhtf : Nat → Int32) (qhjn : Int32) (qhjf : Nat → Int32) (qhmn : Int32) (qhmf : Nat → Int32) (qhbn : Int32) (qhbf : Nat → Int32) (qhsn : Int32) (qhsf : Nat → Int32) (qhcn : Int32) (qhcf : Nat → Int32), HRel F ndn nmf ndf qrn qrf qmn qmf qwn qwf qpn qhnn qhtn qhjn qhmn qhbn qhsn qhcn → XS T n a kd sta po va le → lines.toInt ≤ a.toInt → lines.toInt ≤ n.toInt → 0 ≤ lines.toInt → fn = 0 → fp = 0 → R_x_readX_L0 n tp (fun (u_62 : Int32) (u_63 : Int32) (u_64 : Int32) (u_65 : Int32) (u_56 : Int32) (u_58 : Int32) (u_59 : Int64) (u_60 : Int32) (u_61 : Int32) (uf_40 : Nat → Int64) (uf_39 : Nat → Int32) (u_67 : Int32) (uf_50 : Nat → Int32) (uf_48 : Nat → Int32) (uf_51 : Nat → Int32) (uf_49 : Nat → Int32) (u_77 : Int32) (u_75 : Int32) (u_80 : Int32) (u_76 : Int32) (u_78 : Int32) (u_79 : Int32) (uf_45 : Nat → Int32) (uf_47 : Nat → Int32) (uf_43 : Nat → Int32) (uf_44 : Nat → Int32) (uf_41 : Nat → Int32) (uf_46 : Nat → Int32) (uf_42 : Nat → Int32) (u_72 : Int32) (u_74 : Int32) (u_70 : Int32) (u_71 : Int32) (u_68 : Int32) (u_73 : Int32) (u_69 : Int32) => fn2 = u_62 ∧ fp2 = u_63 ∧ kd2 = u_64 ∧ sta2 = u_65 ∧ po2 = u_56 ∧ va2 = u_58 ∧ le2 = u_59 ∧ tk2 = u_60 ∧ ta2 = u_61 ∧ nmg = uf_40 ∧ ndg = uf_39 ∧ ndk = u_67 ∧ qrg = uf_50 ∧ qmg = uf_48 ∧ qwg = uf_51 ∧ qpg = uf_49 ∧ qrk = u_77 ∧ qmk = u_75 ∧ qwk = u_80 ∧ qpk = u_76 ∧ qmd2 = u_78 ∧ qtr2 = u_79 ∧ qhng = uf_45 ∧ qhtg = uf_47 ∧ qhjg = uf_43 ∧ qhmg = uf_44 ∧ qhbg = uf_41 ∧ qhsg = uf_46 ∧ qhcg = uf_42 ∧ qhnk = u_72 ∧ qhtk = u_74 ∧ qhjk = u_70 ∧ qhmk = u_71 ∧ qhbk = u_68 ∧ qhsk = u_73 ∧ qhck = u_69) (fun (u_62 : Int32) (u_63 : Int32) (u_64 : Int32) (u_65 : Int32) (u_56 : Int32) (u_58 : Int32) (u_59 : Int64) (u_60 : Int32) (u_61 : Int32) (uf_40 : Nat → Int64) (uf_39 : Nat → Int32) (u_67 : Int32) (uf_50 : Nat → Int32) (uf_48 : Nat → Int32) (uf_51 : Nat → Int32) (uf_49 : Nat → Int32) (u_77 : Int32) (u_75 : Int32) (u_80 : Int32) (u_76 : Int32) (u_78 : Int32) (u_79 : Int32) (uf_45 : Nat → Int32) (uf_47 : Nat → Int32) (uf_43 : Nat → Int32) (uf_44 : Nat → Int32) (uf_41 : Nat → Int32) (uf_46 : Nat → Int32) (uf_42 : Nat → Int32) (u_72 : Int32) (u_74 : Int32) (u_70 : Int32) (u_71 : Int32) (u_68 : Int32) (u_73 : Int32) (u_69 : Int32) => fn2 = u_62 ∧ fp2 = u_63 ∧ kd2 = u_64 ∧ sta2 = u_65 ∧ po2 = u_56 ∧ va2 = u_58 ∧ le2 = u_59 ∧ tk2 = u_60 ∧ ta2 = u_61 ∧ nmg = uf_40 ∧ ndg = uf_39 ∧ ndk = u_67 ∧ qrg = uf_50 ∧ qmg = uf_48 ∧ qwg = uf_51 ∧ qpg = uf_49 ∧ qrk = u_77 ∧ qmk = u_75 ∧ qwk = u_80 ∧ qpk = u_76 ∧ qmd2 = u_78 ∧ qtr2 = u_79 ∧ qhng = uf_45 ∧ qhtg = uf_47 ∧ qhjg = uf_43 ∧ qhmg = uf_44 ∧ qhbg = uf_41 ∧ qhsg = uf_46 ∧ qhcg = uf_42 ∧ qhnk = u_72 ∧ qhtk = u_74 ∧ qhjk = u_70 ∧ qhmk = u_71 ∧ qhbk = u_68 ∧ qhsk = u_73 ∧ qhck = u_69) f ndf nmf qhbf qhcf qhjf qhmf qhnf qhsf qhtf qmf qpf qrf qwf 1 lines po va le tk ta fn fp kd sta ndn qhbn qhcn qhjn qhmn qhnn qhsn qhtn qmn qpn qrn qmd qtr qwn → ∃ (k : Nat) (ρ : Rs ((Nat → Int32) × Int32)), TxR T n k F a ρ ∧ XR ρ fn2 fp2 (fun G => HRel G ndk nmg ndg qrk qrg qmk qmg qwk qwg qpk qhnk qhtk qhjk qhmk qhbk qhsk qhck) := by
  intro f
  induction f with
  | zero => intros; rename_i h; exact h.elim
  | succ f ih =>
    intro F a lines fn fp kd sta po va le tk ta nmf ndn ndf qmd qtr qrn qrf qmn qmf qwn qwf qpn qpf qhnn qhnf qhtn qhtf qhjn qhjf qhmn qhmf qhbn qhbf qhsn qhsf qhcn qhcf hH hs hl1 hl2 hl0 hf0 hp0 h
    unfold R_x_readX_L0 at h
    rcases h with ⟨q, -⟩ | ⟨-, h⟩
    · exact absurd q one0
    rcases h with ⟨q, -⟩ | ⟨-, h⟩
    · rw [lt_I] at q; omega
    refine Exists.elim h ?_
    clear h
    intro y0 h
    refine Exists.elim h ?_
    clear h
    intro y1 h
    refine Exists.elim h ?_
    clear h
    intro y2 h
    refine Exists.elim h ?_
    clear h
    intro y3 h
    refine Exists.elim h ?_
    clear h
    intro y4 h
    refine Exists.elim h ?_
    clear h
    intro y5 h
    refine Exists.elim h ?_
    clear h
    intro y6 h
    refine Exists.elim h ?_
    clear h
    intro y7 h
    refine Exists.elim h ?_
    clear h
    intro y8 h
    refine Exists.elim h ?_
    clear h
    intro y9 h
    refine Exists.elim h ?_
    clear h
    intro y10 h
    refine Exists.elim h ?_
    clear h
    intro y11 h
    refine Exists.elim h ?_
    clear h
    intro y12 h
    refine Exists.elim h ?_
    clear h
    intro y13 h
    refine Exists.elim h ?_
    clear h
    intro y14 h
    refine Exists.elim h ?_
    clear h
    intro y15 h
    refine Exists.elim h ?_
    clear h
    intro y16 h
    refine Exists.elim h ?_
    clear h
    intro y17 h
    refine Exists.elim h ?_
    clear h
    intro y18 h
    refine Exists.elim h ?_
    clear h
    intro y19 h
    refine Exists.elim h ?_
    clear h
    intro y20 h
    refine Exists.elim h ?_
    clear h
    intro y21 h
    refine Exists.elim h ?_
    clear h
    intro y22 h
    refine Exists.elim h ?_
    clear h
    intro y23 h
    refine Exists.elim h ?_
    clear h
    intro y24 h
    refine Exists.elim h ?_
    clear h
    intro y25 h
    refine Exists.elim h ?_
    clear h
    intro y26 h
    refine Exists.elim h ?_
    clear h
    intro y27 h
    refine Exists.elim h ?_
    clear h
    intro y28 h
    refine Exists.elim h ?_
    clear h
    intro y29 h
    refine Exists.elim h ?_
    clear h
    intro y30 h
    refine Exists.elim h ?_
    clear h
    intro y31 h
    refine Exists.elim h ?_
    clear h
    intro y32 h
    refine Exists.elim h ?_
    clear h
    intro y33 h
    refine Exists.elim h ?_
    clear h
    intro y34 h
    refine Exists.elim h ?_
    clear h
    intro y35 h
    refine Exists.elim h ?_
    clear h
    intro y36 h
    have hl := h.1
    replace h := h.2
    have m1 := qx_isLine (a := a) hn ht hH hs hl
    rcases m1 with m1 | ⟨b9, e9, x1, x2, x3, xs, n3, n0⟩
    case inr =>
      replace h := pk1 h x1
      refine Exists.elim h ?_
      clear h
      intro w0 h
      refine Exists.elim h ?_
      clear h
      intro w1 h
      refine Exists.elim h ?_
      clear h
      intro w2 h
      refine Exists.elim h ?_
      clear h
      intro w3 h
      refine Exists.elim h ?_
      clear h
      intro w4 h
      refine Exists.elim h ?_
      clear h
      intro w5 h
      refine Exists.elim h ?_
      clear h
      intro w6 h
      refine Exists.elim h ?_
      clear h
      intro w7 h
      refine Exists.elim h ?_
      clear h
      intro w8 h
      refine Exists.elim h ?_
      clear h
      intro w9 h
      refine Exists.elim h ?_
      clear h
      intro w10 h
      refine Exists.elim h ?_
      clear h
      intro w11 h
      refine Exists.elim h ?_
      clear h
      intro w12 h
      refine Exists.elim h ?_
      clear h
      intro w13 h
      refine Exists.elim h ?_
      clear h
      intro w14 h
      refine Exists.elim h ?_
      clear h
      intro w15 h
      refine Exists.elim h ?_
      clear h
      intro w16 h
      refine Exists.elim h ?_
      clear h
      intro w17 h
      refine Exists.elim h ?_
      clear h
      intro w18 h
      refine Exists.elim h ?_
      clear h
      intro w19 h
      refine Exists.elim h ?_
      clear h
      intro w20 h
      refine Exists.elim h ?_
      clear h
      intro w21 h
      refine Exists.elim h ?_
      clear h
      intro w22 h
      refine Exists.elim h ?_
      clear h
      intro w23 h
      refine Exists.elim h ?_
      clear h
      intro w24 h
      refine Exists.elim h ?_
      clear h
      intro w25 h
      refine Exists.elim h ?_
      clear h
      intro w26 h
      refine Exists.elim h ?_
      clear h
      intro w27 h
      refine Exists.elim h ?_
      clear h
      intro w28 h
      refine Exists.elim h ?_
      clear h
      intro w29 h
      refine Exists.elim h ?_
      clear h
      intro w30 h
      refine Exists.elim h ?_
      clear h
      intro w31 h
      refine Exists.elim h ?_
      clear h
      intro w32 h
      refine Exists.elim h ?_
      clear h
      intro w33 h
      refine Exists.elim h ?_
      clear h
      intro w34 h
      refine Exists.elim h ?_
      clear h
      intro w35 h
      refine Exists.elim h ?_
      clear h
      intro w36 h
      have hl2 := h.1
      replace h := h.2
      have m2 := qx_isFollowed (F := F) (a := b9) hn ht xs hl2
      rcases m2 with ⟨g1, -⟩ | ⟨g1, -⟩ | ⟨-, -, g1, g2, g3⟩
      · exact absurd g1 n3
      · exact absurd g1 n0
      replace h := pf1 h g1
      obtain ⟨z, hz, h⟩ := h
      cases f with
      | zero => exact h.elim
      | succ f =>
        unfold R_x_readX_L0 at h
        rcases h with ⟨-, h⟩ | ⟨q, -⟩
        case inr => exact absurd rfl q
        refine ⟨1, .inl (1, b9), ⟨hH.2.2.1, Or.inl ⟨(1, b9), e9, rfl⟩⟩, ?_, ?_⟩
        · show fn2 = 1; rw [h.1, g2]
        · show fp2 = b9; rw [h.2.1, g3]
    cases hc : lineS F T n a with
    | inl e =>
      rw [hc] at m1
      obtain ⟨x1, x2, x3⟩ := XF_l m1
      replace h := pf1 h x1
      obtain ⟨z, hz, h⟩ := h
      cases f with
      | zero => exact h.elim
      | succ f =>
        unfold R_x_readX_L0 at h
        rcases h with ⟨-, h⟩ | ⟨q, -⟩
        case inr => exact absurd rfl q
        refine ⟨1, .inl e, ⟨hH.2.2.1, Or.inl ⟨e, hc, rfl⟩⟩, ?_, ?_⟩
        · rw [h.1, x2]
        · rw [h.2.1, x3]
    | inr v =>
      rw [hc] at m1
      obtain ⟨x1, x2, x3, xs, H2⟩ := XF_r m1
      have up := up_line hn hs.2.1 v hc
      replace h := pk1 h x1
      refine Exists.elim h ?_
      clear h
      intro w0 h
      refine Exists.elim h ?_
      clear h
      intro w1 h
      refine Exists.elim h ?_
      clear h
      intro w2 h
      refine Exists.elim h ?_
      clear h
      intro w3 h
      refine Exists.elim h ?_
      clear h
      intro w4 h
      refine Exists.elim h ?_
      clear h
      intro w5 h
      refine Exists.elim h ?_
      clear h
      intro w6 h
      refine Exists.elim h ?_
      clear h
      intro w7 h
      refine Exists.elim h ?_
      clear h
      intro w8 h
      refine Exists.elim h ?_
      clear h
      intro w9 h
      refine Exists.elim h ?_
      clear h
      intro w10 h
      refine Exists.elim h ?_
      clear h
      intro w11 h
      refine Exists.elim h ?_
      clear h
      intro w12 h
      refine Exists.elim h ?_
      clear h
      intro w13 h
      refine Exists.elim h ?_
      clear h
      intro w14 h
      refine Exists.elim h ?_
      clear h
      intro w15 h
      refine Exists.elim h ?_
      clear h
      intro w16 h
      refine Exists.elim h ?_
      clear h
      intro w17 h
      refine Exists.elim h ?_
      clear h
      intro w18 h
      refine Exists.elim h ?_
      clear h
      intro w19 h
      refine Exists.elim h ?_
      clear h
      intro w20 h
      refine Exists.elim h ?_
      clear h
      intro w21 h
      refine Exists.elim h ?_
      clear h
      intro w22 h
      refine Exists.elim h ?_
      clear h
      intro w23 h
      refine Exists.elim h ?_
      clear h
      intro w24 h
      refine Exists.elim h ?_
      clear h
      intro w25 h
      refine Exists.elim h ?_
      clear h
      intro w26 h
      refine Exists.elim h ?_
      clear h
      intro w27 h
      refine Exists.elim h ?_
      clear h
      intro w28 h
      refine Exists.elim h ?_
      clear h
      intro w29 h
      refine Exists.elim h ?_
      clear h
      intro w30 h
      refine Exists.elim h ?_
      clear h
      intro w31 h
      refine Exists.elim h ?_
      clear h
      intro w32 h
      refine Exists.elim h ?_
      clear h
      intro w33 h
      refine Exists.elim h ?_
      clear h
      intro w34 h
      refine Exists.elim h ?_
      clear h
      intro w35 h
      refine Exists.elim h ?_
      clear h
      intro w36 h
      have hl2 := h.1
      replace h := h.2
      have m2 := qx_isFollowed (F := F) (a := v.2) hn ht xs hl2
      rcases m2 with ⟨g1, g2, g3, g4, xs2, k0, k1, k2, k3, k4, k5, k6, k7, k8, k9, k10, k11, k12, k13, k14, k15, k16, k17, k18, k19, k20, k21, k22, k23, k24, k25, k26, k27, k28⟩ | ⟨g1, ⟨g5, g2, g3, g4⟩ | ⟨g5, g2, g3, g4, k0, k1, k2, k3, k4, k5, k6, k7, k8, k9, k10, k11, k12, k13, k14, k15, k16, k17, k18, k19, k20, k21, k22, k23, k24, k25, k26, k27, k28⟩⟩ | ⟨g0, g1, g2, g3, g4⟩
      · have semi := nx_semi hn up.2 g1
        replace h := pk1 h g2
        obtain ⟨z, hz, h⟩ := h
        rw [ofI1] at hz
        have ez := inc1 (u := lines) (z := z) (a := 0) (b := 900) ⟨by omega, by have := hn.2; omega⟩ (by omega) (by omega) hz.symm
        subst k0 k1 k2 k3 k4 k5 k6 k7 k8 k9 k10 k11 k12 k13 k14 k15 k16 k17 k18 k19 k20 k21 k22 k23 k24 k25 k26 k27 k28
        obtain ⟨k, ρ, q1, q2⟩ := ih v.1 (nx T n v.2) z _ _ _ _ _ _ _ _ _ _ _ _ _ _ _ _ _ _ _ _ _ _ _ _ _ _ _ _ _ _ _ _ _ _ _ _ H2 xs2 (by omega) (by omega) (by omega) (by rw [g3, x2, hf0]) (by rw [g4, x3, hp0]) h
        exact ⟨k + 1, ρ, ⟨hH.2.2.1, Or.inr ⟨v, hc, Or.inl ⟨g1, q1⟩⟩⟩, q2⟩
      · replace h := pf1 h g2
        obtain ⟨z, hz, h⟩ := h
        cases f with
        | zero => exact h.elim
        | succ f =>
          unfold R_x_readX_L0 at h
          rcases h with ⟨-, h⟩ | ⟨q, -⟩
          case inr => exact absurd rfl q
          have e12 := H2.2.1.2.2.2.2.2.2.1
          have e11 := H2.2.1.2.2.2.2.2.1
          rw [e12, e11] at g5
          refine ⟨1, .inl (6, v.2), ⟨hH.2.2.1, Or.inr ⟨v, hc, Or.inr (Or.inl ⟨g1, Or.inl ⟨g5, rfl⟩⟩)⟩⟩, ?_, ?_⟩
          · show fn2 = 6; rw [h.1, g3]
          · show fp2 = v.2; rw [h.2.1, g4]
      · replace h := pf1 h g2
        obtain ⟨z, hz, h⟩ := h
        cases f with
        | zero => exact h.elim
        | succ f =>
          unfold R_x_readX_L0 at h
          rcases h with ⟨-, h⟩ | ⟨q, -⟩
          case inr => exact absurd rfl q
          have e12 := H2.2.1.2.2.2.2.2.2.1
          have e11 := H2.2.1.2.2.2.2.2.1
          rw [e12, e11] at g5
          refine ⟨1, .inr v, ⟨hH.2.2.1, Or.inr ⟨v, hc, Or.inr (Or.inl ⟨g1, Or.inr ⟨⟨fun w => g5.1 (HRel_no H2 w), g5⟩, rfl⟩⟩)⟩⟩, ?_, ?_, ?_⟩
          · rw [h.1, g3, x2, hf0]
          · rw [h.2.1, g4, x3, hp0]
          · show HRel v.1 ndk nmg ndg qrk qrg qmk qmg qwk qwg qpk qhnk qhtk qhjk qhmk qhbk qhsk qhck
            subst k0 k1 k2 k3 k4 k5 k6 k7 k8 k9 k10 k11 k12 k13 k14 k15 k16 k17 k18 k19 k20 k21 k22 k23 k24 k25 k26 k27 k28
            rw [h.2.2.2.2.2.2.2.2.2.2.2.1, h.2.2.2.2.2.2.2.2.2.1, h.2.2.2.2.2.2.2.2.2.2.1, h.2.2.2.2.2.2.2.2.2.2.2.2.2.2.2.2.1, h.2.2.2.2.2.2.2.2.2.2.2.2.1, h.2.2.2.2.2.2.2.2.2.2.2.2.2.2.2.2.2.1, h.2.2.2.2.2.2.2.2.2.2.2.2.2.1, h.2.2.2.2.2.2.2.2.2.2.2.2.2.2.2.2.2.2.1, h.2.2.2.2.2.2.2.2.2.2.2.2.2.2.1, h.2.2.2.2.2.2.2.2.2.2.2.2.2.2.2.2.2.2.2.1, h.2.2.2.2.2.2.2.2.2.2.2.2.2.2.2.2.2.2.2.2.2.2.2.2.2.2.2.2.2.1, h.2.2.2.2.2.2.2.2.2.2.2.2.2.2.2.2.2.2.2.2.2.2.2.2.2.2.2.2.2.2.1, h.2.2.2.2.2.2.2.2.2.2.2.2.2.2.2.2.2.2.2.2.2.2.2.2.2.2.2.2.2.2.2.1, h.2.2.2.2.2.2.2.2.2.2.2.2.2.2.2.2.2.2.2.2.2.2.2.2.2.2.2.2.2.2.2.2.1, h.2.2.2.2.2.2.2.2.2.2.2.2.2.2.2.2.2.2.2.2.2.2.2.2.2.2.2.2.2.2.2.2.2.1, h.2.2.2.2.2.2.2.2.2.2.2.2.2.2.2.2.2.2.2.2.2.2.2.2.2.2.2.2.2.2.2.2.2.2.1, h.2.2.2.2.2.2.2.2.2.2.2.2.2.2.2.2.2.2.2.2.2.2.2.2.2.2.2.2.2.2.2.2.2.2.2]
            exact H2
      · replace h := pf1 h g2
        obtain ⟨z, hz, h⟩ := h
        cases f with
        | zero => exact h.elim
        | succ f =>
          unfold R_x_readX_L0 at h
          rcases h with ⟨-, h⟩ | ⟨q, -⟩
          case inr => exact absurd rfl q
          refine ⟨1, .inl (1, v.2), ⟨hH.2.2.1, Or.inr ⟨v, hc, Or.inr (Or.inr ⟨g0, g1, rfl⟩)⟩⟩, ?_, ?_⟩
          · show fn2 = 1; rw [h.1, g3]
          · show fp2 = v.2; rw [h.2.1, g4]
