set_option maxRecDepth 100000
set_option maxHeartbeats 4000000
theorem NRel_0 {F : Nat → Int32} {nmf : Nat → Int64} {ndf : Nat → Int32} (hF : ∀ i : Nat, i < 311 → F i = 0) : NRel F nmf ndf 0 := by
  refine ⟨⟨by decide, by decide⟩, fun i hi => ?_, fun j hj h => ?_, fun i i' hi _ _ => ?_⟩
  · rw [zI] at hi; omega
  · rw [hF _ (by omega), zI] at h; omega
  · rw [zI] at hi; omega
theorem HRel_0 {F : Nat → Int32} {nmf : Nat → Int64} {ndf qrf qmf qwf : Nat → Int32} (hF : ∀ i : Nat, i < 311 → F i = 0) : HRel F 0 nmf ndf 0 qrf 0 qmf 0 qwf 0 0 0 0 0 0 0 0 := by
  have z := fun i h => hF i h
  have I : ∀ (i : Nat) (b : Int), i < 311 → 0 ≤ b → IV (F i) 0 b := fun i b h hb => by rw [hF i h, IV, zI]; omega
  refine ⟨⟨(hF 15 (by omega)).symm, Or.inl (hF 15 (by omega))⟩, ⟨(hF 6 (by omega)).symm, (hF 7 (by omega)).symm, (hF 8 (by omega)).symm, (hF 9 (by omega)).symm, (hF 10 (by omega)).symm, (hF 11 (by omega)).symm, (hF 12 (by omega)).symm, (hF 13 (by omega)).symm, (hF 14 (by omega)).symm⟩, ⟨I 6 8 (by omega) (by omega), I 7 4 (by omega) (by omega), I 8 12 (by omega) (by omega), I 9 8 (by omega) (by omega), I 10 6 (by omega) (by omega), I 11 4 (by omega) (by omega), I 13 6 (by omega) (by omega), I 14 6 (by omega) (by omega)⟩, I 12 8 (by omega) (by omega), Or.inl ⟨rfl, hF 134 (by omega)⟩, ?_, ?_, ?_, NRel_0 hF, ?_, ?_, ?_, ?_, fun _ => ⟨hF 6 (by omega), hF 7 (by omega), hF 8 (by omega), hF 9 (by omega), hF 10 (by omega), hF 11 (by omega), hF 12 (by omega), hF 13 (by omega), hF 14 (by omega), hF 134 (by omega)⟩, ?_⟩
  · intro k hk; rw [hF 6 (by omega), zI] at hk; omega
  · intro k hk; rw [hF 8 (by omega), zI] at hk; omega
  · intro k hk; rw [hF 10 (by omega), zI] at hk; omega
  · rw [hF 6 (by omega), hF 7 (by omega), hF 11 (by omega), zI]; rfl
  · intro j hj _; rw [hF _ (by omega), zI]; omega
  · intro j hj _; rw [hF _ (by omega), zI]; omega
  · intro j hj _; rw [hF _ (by omega), zI]; omega
  · intro h; rw [hF 13 (by omega), zI] at h; omega
theorem qx_read {T : Nat → Int32} {n tk ta : Int32} {tp : Nat → Int32} {nmf : Nat → Int64} {ndf qrf qmf qwf qpf qhnf qhtf qhjf qhmf qhbf qhsf qhcf : Nat → Int32} {fn2 fp2 kd2 sta2 po2 va2 : Int32} {le2 : Int64} {tk2 ta2 : Int32} {nmg : Nat → Int64} {ndg : Nat → Int32} {ndk : Int32} {qrg qmg qwg qpg : Nat → Int32} {qrk qmk qwk qpk qmd2 qtr2 : Int32} {qhng qhtg qhjg qhmg qhbg qhsg qhcg : Nat → Int32} {qhnk qhtk qhjk qhmk qhbk qhsk qhck : Int32} {F0 : Nat → Int32} (hn : IV n 0 900) (ht : TpR tp T) (hF : ∀ i : Nat, i < 311 → F0 i = 0) (h : R_x_readX n tk ta tp nmf ndf qrf qmf qwf qpf qhnf qhtf qhjf qhmf qhbf qhsf qhcf fn2 fp2 kd2 sta2 po2 va2 le2 tk2 ta2 nmg ndg ndk qrg qmg qwg qpg qrk qmk qwk qpk qmd2 qtr2 qhng qhtg qhjg qhmg qhbg qhsg qhcg qhnk qhtk qhjk qhmk qhbk qhsk qhck) : ∃ (k : Nat) (ρ : Rs ((Nat → Int32) × Int32)), TxR T n k F0 (rn T n 5 0) ρ ∧ XR ρ fn2 fp2 (fun G => HRel G ndk nmg ndg qrk qrg qmk qmg qwk qwg qpk qhnk qhtk qhjk qhmk qhbk qhsk qhck) := by
  unfold R_x_readX at h
  refine Exists.elim h ?_
  clear h
  intro y0 h
  refine Exists.elim h ?_
  clear h
  intro y1 h
  refine Exists.elim h ?_
  clear h
  intro y2 h
  refine Exists.elim h ?_
  clear h
  intro y3 h
  refine Exists.elim h ?_
  clear h
  intro y4 h
  refine Exists.elim h ?_
  clear h
  intro y5 h
  refine Exists.elim h ?_
  clear h
  intro y6 h
  refine Exists.elim h ?_
  clear h
  intro y7 h
  refine Exists.elim h ?_
  clear h
  intro y8 h
  refine Exists.elim h ?_
  clear h
  intro y9 h
  refine Exists.elim h ?_
  clear h
  intro y10 h
  refine Exists.elim h ?_
  clear h
  intro y11 h
  refine Exists.elim h ?_
  clear h
  intro y12 h
  refine Exists.elim h ?_
  clear h
  intro y13 h
  refine Exists.elim h ?_
  clear h
  intro y14 h
  refine Exists.elim h ?_
  clear h
  intro y15 h
  refine Exists.elim h ?_
  clear h
  intro y16 h
  refine Exists.elim h ?_
  clear h
  intro y17 h
  refine Exists.elim h ?_
  clear h
  intro y18 h
  refine Exists.elim h ?_
  clear h
  intro y19 h
  refine Exists.elim h ?_
  clear h
  intro y20 h
  refine Exists.elim h ?_
  clear h
  intro y21 h
  refine Exists.elim h ?_
  clear h
  intro y22 h
  refine Exists.elim h ?_
  clear h
  intro y23 h
  have hcl := h.1
  replace h := h.2
  refine Exists.elim h ?_
  clear h
  intro k1 h
  refine Exists.elim h ?_
  clear h
  intro s1 h
  refine Exists.elim h ?_
  clear h
  intro p1 h
  refine Exists.elim h ?_
  clear h
  intro v1 h
  refine Exists.elim h ?_
  clear h
  intro l1 h
  have hx := h.1
  replace h := h.2
  obtain ⟨f, h⟩ := h
  unfold R_h_clearX R_s_clearX at hcl
  obtain ⟨z0, z1, z2, z3, z4, z5, z6, z7, z8, z9, ⟨c0, c1, c2, c3, c4, c5, c6, c7, c8, c9⟩, e0, e1, e2, e3, e4, e5, e6, e7, e8, e9, e10, e11, e12, e13, e14, e15, e16, e17, e18, e19, e20, e21, e22, e23⟩ := hcl
  subst c0 c1 c2 c3 c4 c5 c6 c7 c8 c9
  subst e0 e1 e2 e3 e4 e5 e6 e7 e8 e9 e10 e11 e12 e13 e14 e15 e16 e17 e18 e19 e20 e21 e22 e23
  obtain ⟨t1, t2⟩ := x_next_spec hn ht ⟨by decide, by decide⟩ hx
  have i0 : IV (rn T n 5 0) 0 900 := ⟨by have := rn_ge (T := T) (k := 5) (u := 0) hn (by decide) ⟨by decide, by decide⟩; rw [zI] at this; omega, (rn_ge (T := T) (k := 5) (u := 0) hn (by decide) ⟨by decide, by decide⟩).2⟩
  exact qx_read0 hn ht f F0 (rn T n 5 0) 0 _ _ _ _ _ _ _ _ _ _ _ _ _ _ _ _ _ _ _ _ _ _ _ _ _ _ _ _ _ _ _ _ _ _ _ _ (HRel_0 hF) ⟨t1, i0, t2⟩ (by rw [zI]; exact i0.1) (by rw [zI]; exact hn.1) (by decide) rfl rfl h

def MT (ρ : Rs ((Nat → Int32) × Int32)) (κ0 : Int32 → Int32 → Int32 → Int32 → (Nat → Int32) → (Nat → Int32) → Int32 → Int32 → Int32 → Int32 → Prop) (κ1 : Int32 → (Nat → Int32) → Int32 → Int32 → Int32 → Int32 → Int32 → (Nat → Int32) → Int32 → Int32 → Prop) : Prop :=
  (∃ (e : Int32 × Int32) (A E N t w : Int32) (F L : Nat → Int32), ρ = .inl e ∧ κ0 A E 1 e.1 F L N e.2 t w) ∨
  (∃ (v : (Nat → Int32) × Int32) (E N w pl tk : Int32) (L : Nat → Int32), κ1 tk v.1 v.2 0 pl 0 E L N w ∧ ((tk = 0 ∧ ((v.1 12 = 0 ∨ v.1 11 = 0) ∧ ρ = .inl (6, v.2) ∨ (v.1 15 ≠ 0 ∧ v.1 12 ≠ 0 ∧ v.1 11 ≠ 0) ∧ ρ = .inr v)) ∨ (tk ≠ 0 ∧ ρ = .inl (1, v.2))))
theorem qm_text {T : Nat → Int32} {n : Int32} {κ0 : Int32 → Int32 → Int32 → Int32 → (Nat → Int32) → (Nat → Int32) → Int32 → Int32 → Int32 → Int32 → Prop} {κ1 : Int32 → (Nat → Int32) → Int32 → Int32 → Int32 → Int32 → Int32 → (Nat → Int32) → Int32 → Int32 → Prop} (hn : IV n 0 900) : ∀ (k : Nat) (F : Nat → Int32) (a : Int32) (ρ : Rs ((Nat → Int32) × Int32)), TxR T n k F a ρ → ∀ (f : Nat) (F2 L2 : Nat → Int32) (pl fd at_ en tk wh ns ft : Int32), MF T n F (lineS F T n a) at_ en fd ft F2 L2 ns pl tk wh → R_m_houseX_L1 n T κ0 κ1 f F2 L2 pl fd at_ en tk wh ns ft → MT ρ κ0 κ1 := by
  intro k
  induction k with
  | zero => intro F a ρ h; exact h.elim
  | succ k ih =>
    intro F a ρ h f F2 L2 pl fd at_ en tk wh ns ft hm hl
    rw [TxR] at h
    obtain ⟨hF, h⟩ := h
    cases f with
    | zero => exact hl.elim
    | succ f =>
      unfold R_m_houseX_L1 at hl
      rcases h with ⟨e, h1, h⟩ | ⟨v, h1, h⟩
      · rw [h1] at hm
        obtain ⟨m1, m2, m3⟩ := hm
        rcases hl with ⟨-, hl⟩ | ⟨q, -⟩
        · subst m1 m2 m3
          exact Or.inl ⟨e, _, _, _, _, _, _, _, h, hl⟩
        · rw [m1] at q; exact absurd q one0
      · rw [h1] at hm
        obtain ⟨m0, m1, m2, m3, m4, m5⟩ := hm
        rcases hl with ⟨q, -⟩ | ⟨-, hl⟩
        · exact absurd m1 q
        subst m0 m1 m2 m3
        have ek : tk = tmF (tkF T n v.2) := m5.2.1
        rcases hl with ⟨q59, hl⟩ | ⟨q59, hl⟩
        · have n3 : tkF T n v.2 ≠ 3 := fun q => q59 (by rw [ek]; exact tm59.mpr q)
          refine Or.inr ⟨v, _, _, _, _, _, _, hl, ?_⟩
          rcases h with ⟨q, -⟩ | ⟨q, h⟩ | ⟨q, q0, h⟩
          · exact absurd q n3
          · exact Or.inl ⟨by rw [ek]; exact tm0.mpr q, h⟩
          · exact Or.inr ⟨fun w => q0 (tm0.mp (ek.symm.trans w)), h⟩
        · have y3 : tkF T n v.2 = 3 := tm59.mp (ek.symm.trans q59)
          have h' : TxR T n k v.1 (nx T n v.2) ρ := by
            rcases h with ⟨-, h⟩ | ⟨q, -⟩ | ⟨q, -⟩
            · exact h
            · exact absurd (y3.symm.trans q) (by decide)
            · exact absurd y3 q
          clear h
          obtain ⟨A, E, M, N, t, w, hx, A2, E2, f2, u2, G2, M2, N2, p2, t2, w2, hr, hl⟩ := hl
          obtain ⟨x1, x2, x3⟩ := qm_next_at hn m4 m5 hx
          subst x1
          cases k with
          | zero => exact h'.elim
          | succ k =>
            have hF2 : FIv v.1 := by rw [TxR] at h'; exact h'.1
            have mr := qm_readLine hn hF2 ⟨rfl, rfl, rfl, x2, x3⟩ hr
            exact ih _ _ _ h' _ _ _ _ _ _ _ _ _ _ _ mr hl
theorem qm_zero {κ : (Nat → Int32) → Prop} : ∀ (f : Nat) (F : Nat → Int32) (u : Int32) (m : Nat), u.toInt = m → m ≤ 311 → (∀ i : Nat, i < m → F i = 0) → R_m_houseX_L0 κ f F u → ∃ G : Nat → Int32, (∀ i : Nat, i < 311 → G i = 0) ∧ κ G := by
  intro f
  induction f with
  | zero => intro F u m _ _ _ h; exact h.elim
  | succ f ih =>
    intro F u m hu hm hF h
    unfold R_m_houseX_L0 at h
    have e : (311 : Int32).toInt = 311 := by decide
    rcases h with ⟨q, h⟩ | ⟨q, h⟩
    · rw [le_I, e] at q
      exact ⟨F, fun i hi => hF i (by omega), h⟩
    · rw [le_I, e] at q
      obtain ⟨G, hG, z, hz, h⟩ := h
      rw [ofI1] at hz
      have ez := inc1 (u := u) (z := z) (a := 0) (b := 900) ⟨by omega, by omega⟩ (by omega) (by omega) hz.symm
      have en : u.toNatClampNeg = m := by have := Int32.toNat_toInt u; omega
      refine ih G z (m + 1) (by omega) (by omega) ?_ h
      intro i hi
      rw [hG, en]
      by_cases w : i = m
      · rw [w, upd_at]
      · rw [upd_ne w]; exact hF i (by omega)

theorem qm_skip2 {κ : (Nat → Int32) → Prop} : ∀ (f : Nat) (F : Nat → Int32) (u : Int32), R_m_houseX_L2 κ f F u → ∃ G : Nat → Int32, κ G := by
  intro f
  induction f with
  | zero => intro F u h; exact h.elim
  | succ f ih =>
    intro F u h
    unfold R_m_houseX_L2 at h
    rcases h with ⟨-, h⟩ | ⟨-, z, -, h⟩
    · exact ⟨F, h⟩
    · exact ih _ _ h
theorem qm_skip3 {R : Nat → Int32} {κ : (Nat → Int32) → Prop} : ∀ (f : Nat) (F : Nat → Int32) (u : Int32), R_m_houseX_L3 R κ f F u → ∃ G : Nat → Int32, κ G := by
  intro f
  induction f with
  | zero => intro F u h; exact h.elim
  | succ f ih =>
    intro F u h
    unfold R_m_houseX_L3 at h
    obtain ⟨z0, -, h⟩ := h
    rcases h with ⟨-, h⟩ | ⟨-, z1, -, z2, -, z3, -, z4, -, z5, -, z6, -, z7, -, z, -, h⟩
    · exact ⟨F, h⟩
    · exact ih _ _ h
theorem qm_skip4 {R : Nat → Int32} {κ : (Nat → Int32) → Prop} : ∀ (f : Nat) (F : Nat → Int32) (u : Int32), R_m_houseX_L4 R κ f F u → ∃ G : Nat → Int32, κ G := by
  intro f
  induction f with
  | zero => intro F u h; exact h.elim
  | succ f ih =>
    intro F u h
    unfold R_m_houseX_L4 at h
    obtain ⟨z0, -, h⟩ := h
    rcases h with ⟨-, h⟩ | ⟨-, z1, -, z2, -, z3, -, z4, -, z5, -, z, -, h⟩
    · exact ⟨F, h⟩
    · exact ih _ _ h
theorem qm_skip5 {R : Nat → Int32} {κ : (Nat → Int32) → Prop} : ∀ (f : Nat) (F : Nat → Int32) (u : Int32), R_m_houseX_L5 R κ f F u → ∃ G : Nat → Int32, κ G := by
  intro f
  induction f with
  | zero => intro F u h; exact h.elim
  | succ f ih =>
    intro F u h
    unfold R_m_houseX_L5 at h
    obtain ⟨z0, -, h⟩ := h
    rcases h with ⟨-, h⟩ | ⟨-, z1, -, z2, -, z3, -, z4, -, z5, -, z, -, h⟩
    · exact ⟨F, h⟩
    · exact ih _ _ h
theorem qm_skip6 {R : Nat → Int32} {κ : (Nat → Int32) → Int32 → Prop} : ∀ (f : Nat) (F : Nat → Int32) (u : Int32), R_m_houseX_L6 R κ f F u → ∃ G : Nat → Int32, κ G (R 12) := by
  intro f
  induction f with
  | zero => intro F u h; exact h.elim
  | succ f ih =>
    intro F u h
    unfold R_m_houseX_L6 at h
    obtain ⟨z0, e0, h⟩ := h
    rcases h with ⟨-, h⟩ | ⟨-, z1, -, z2, -, z, -, h⟩
    · subst e0; exact ⟨F, h⟩
    · exact ih _ _ h
theorem qm_copy0 {R G3 : Nat → Int32} : ∀ (f : Nat) (F : Nat → Int32) (u : Int32) (m : Nat), u.toInt = m → m ≤ 311 → (∀ i : Nat, i < m → F i = R i) → R_m_copyRX_L0 R (fun (uf_1 : Nat → Int32) => G3 = uf_1) f F u → ∀ i : Nat, i < 311 → G3 i = R i := by
  intro f
  induction f with
  | zero => intro F u m _ _ _ h; exact h.elim
  | succ f ih =>
    intro F u m hu hm hF h
    unfold R_m_copyRX_L0 at h
    have e : (311 : Int32).toInt = 311 := by decide
    rcases h with ⟨q, h⟩ | ⟨q, h⟩
    · rw [le_I, e] at q
      intro i hi
      rw [h]; exact hF i (by omega)
    · rw [le_I, e] at q
      obtain ⟨z1, h1, z2, h2, z, hz, h⟩ := h
      rw [ofI1] at hz
      have ez := inc1 (u := u) (z := z) (a := 0) (b := 900) ⟨by omega, by omega⟩ (by omega) (by omega) hz.symm
      have e1 : z1 = u := by rw [h1]; exact Int32.toInt_inj.mp (by rw [addI (by rw [zI]; omega) (by rw [zI]; omega), zI]; omega)
      have en : u.toNatClampNeg = m := by have := Int32.toNat_toInt u; omega
      refine ih _ z (m + 1) (by omega) (by omega) ?_ h
      intro i hi
      rw [h2, e1, en]
      by_cases w : i = m
      · rw [w, upd_at]
      · rw [upd_ne w]; exact hF i (by omega)
theorem qm_copy {R D G3 : Nat → Int32} (h : R_m_copyRX R D G3) : ∀ i : Nat, i < 311 → G3 i = R i := by
  unfold R_m_copyRX at h
  obtain ⟨f, h⟩ := h
  exact qm_copy0 f D 0 0 (by decide) (by omega) (fun i hi => by omega) h
theorem qm_house {n m_taped m_size m_at m_end m_token m_whole m_nameSize m_fault m_place m_failed m_hasHouse m_undos m_images m_at2 m_end2 m_failed2 m_fault2 m_hasHouse2 m_images2 m_nameSize2 m_place2 m_size2 m_taped2 m_thrown2 m_token2 m_trouble2 m_undos2 m_whole2 r : Int32} {T d_letters d_r d_fresh d_st d_fresh2 d_letters2 d_r2 d_st2 : Nat → Int32} (hn : IV m_taped 0 900) (h : R_m_houseX n m_taped m_size m_at m_end m_token m_whole m_nameSize m_fault m_place m_failed m_hasHouse m_undos m_images T d_letters d_r d_fresh d_st m_at2 m_end2 m_failed2 m_fault2 d_fresh2 m_hasHouse2 m_images2 d_letters2 m_nameSize2 m_place2 d_r2 m_size2 d_st2 m_taped2 m_thrown2 m_token2 m_trouble2 m_undos2 m_whole2 r) : (¬ (0 ≤ n.toInt ∧ n.toInt ≤ m_taped.toInt) ∧ m_thrown2 = 0 ∧ m_fault2 = m_fault ∧ m_place2 = m_place ∧ m_taped2 = m_taped ∧ m_size2 = m_size ∧ m_trouble2 = 2 ∧ r = -1 ∧ m_hasHouse2 = m_hasHouse ∧ d_r2 = d_r ∧ d_st2 = d_st ∧ m_undos2 = m_undos ∧ m_images2 = m_images) ∨ ((0 ≤ n.toInt ∧ n.toInt ≤ m_taped.toInt) ∧ ∃ F0 : Nat → Int32, (∀ i : Nat, i < 311 → F0 i = 0) ∧ ∀ (k : Nat) (ρ : Rs ((Nat → Int32) × Int32)), TxR T n k F0 (rn T n 5 0) ρ → m_thrown2 = 0 ∧ m_taped2 = 0 ∧ m_size2 = n ∧ ((∃ e : Int32 × Int32, ρ = .inl e ∧ m_fault2 = e.1 ∧ m_place2 = e.2 ∧ m_trouble2 = 4 ∧ r = -1 ∧ m_hasHouse2 = m_hasHouse ∧ d_r2 = d_r ∧ d_st2 = d_st ∧ m_undos2 = m_undos ∧ m_images2 = m_images) ∨ (∃ v : (Nat → Int32) × Int32, ρ = .inr v ∧ m_fault2 = 0 ∧ m_trouble2 = 0 ∧ r = v.1 12 ∧ m_hasHouse2 = 1 ∧ (∀ i : Nat, i < 311 → d_r2 i = v.1 i) ∧ m_undos2 = 0 ∧ m_images2 = 0))) := by
  unfold R_m_houseX at h
  obtain ⟨th, tr, ⟨g1, g2⟩, r5, h5, h⟩ := h
  have hin : (r5 = 1 ∧ 0 ≤ n.toInt ∧ n.toInt ≤ m_taped.toInt) ∨ (r5 = 0 ∧ ¬ (0 ≤ n.toInt ∧ n.toInt ≤ m_taped.toInt)) := by
    simp only [R_m_inX] at h5
    rcases h5 with ⟨q, h5⟩ | ⟨q, ⟨q2, h5⟩ | ⟨q2, h5⟩⟩
    · rw [lt_I, zI] at q; exact Or.inr ⟨h5, by omega⟩
    · rw [lt_I] at q2; exact Or.inr ⟨h5, by omega⟩
    · rw [lt_I, zI] at q; rw [lt_I] at q2; exact Or.inl ⟨h5, by omega, by omega⟩
  rcases hin with ⟨q5, hi⟩ | ⟨q5, hi⟩
  case inr =>
    replace h := pf2 h q5
    obtain ⟨tr2, r2, ⟨n1, n2⟩, k_m_at2, k_m_end2, k_m_failed2, k_m_fault2, k_d_fresh2, k_m_hasHouse2, k_m_images2, k_d_letters2, k_m_nameSize2, k_m_place2, k_d_r2, k_m_size2, k_d_st2, k_m_taped2, k_m_thrown2, k_m_token2, k_m_trouble2, k_m_undos2, k_m_whole2, k_r⟩ := h
    exact Or.inl ⟨hi, by rw [k_m_thrown2, g1], k_m_fault2, k_m_place2, k_m_taped2, k_m_size2, by rw [k_m_trouble2, n1], by rw [k_r, n2], k_m_hasHouse2, k_d_r2, k_d_st2, k_m_undos2, k_m_images2⟩
  replace h := pk2 h q5
  obtain ⟨f0, h⟩ := h
  obtain ⟨F0, hF0, h⟩ := qm_zero f0 d_fresh 0 0 (by decide) (by omega) (fun i hi => by omega) h
  obtain ⟨A, E, M, N, t, w, hx, A2, E2, f2, u2, G2, M2, N2, p2, t2, w2, hr, f1, h⟩ := h
  have hn' : IV n 0 900 := ⟨hi.1, by have := hn.2; omega⟩
  obtain ⟨t1, tk⟩ := m_next_spec hn' ⟨by decide, by decide⟩ hx
  have i0 : IV (rn T n 5 0) 0 900 := ⟨by have := rn_ge (T := T) (k := 5) (u := 0) hn' (by decide) ⟨by decide, by decide⟩; rw [zI] at this; omega, (rn_ge (T := T) (k := 5) (u := 0) hn' (by decide) ⟨by decide, by decide⟩).2⟩
  have I : ∀ (i : Nat) (b : Int), i < 311 → 0 ≤ b → IV (F0 i) 0 b := fun i b h hb => by rw [hF0 i h, IV, zI]; omega
  have hFI : FIv F0 := ⟨I 6 8 (by omega) (by omega), I 7 4 (by omega) (by omega), I 8 12 (by omega) (by omega), I 9 8 (by omega) (by omega), I 10 6 (by omega) (by omega), I 11 4 (by omega) (by omega), I 13 6 (by omega) (by omega), I 14 6 (by omega) (by omega)⟩
  have ml := qm_readLine hn' hFI (a := rn T n 5 0) ⟨rfl, rfl, rfl, i0, tk⟩ (by rw [← t1]; exact hr)
  have hlast : ∀ (k : Nat) (ρ : Rs ((Nat → Int32) × Int32)), TxR T n k F0 (rn T n 5 0) ρ → m_thrown2 = 0 ∧ m_taped2 = 0 ∧ m_size2 = n ∧ ((∃ e : Int32 × Int32, ρ = .inl e ∧ m_fault2 = e.1 ∧ m_place2 = e.2 ∧ m_trouble2 = 4 ∧ r = -1 ∧ m_hasHouse2 = m_hasHouse ∧ d_r2 = d_r ∧ d_st2 = d_st ∧ m_undos2 = m_undos ∧ m_images2 = m_images) ∨ (∃ v : (Nat → Int32) × Int32, ρ = .inr v ∧ m_fault2 = 0 ∧ m_trouble2 = 0 ∧ r = v.1 12 ∧ m_hasHouse2 = 1 ∧ (∀ i : Nat, i < 311 → d_r2 i = v.1 i) ∧ m_undos2 = 0 ∧ m_images2 = 0)) := by
    intro k ρ hT
    have K := qm_text hn' k F0 _ ρ hT _ _ _ _ _ _ _ _ _ _ _ ml h
    rcases K with ⟨e, A', E', N', t', w', F', L', hρ, K⟩ | ⟨v, E', N', w', pl', tk', L', K, hρ⟩
    · obtain ⟨tr2, r2, ⟨n1, n2⟩, k_m_at2, k_m_end2, k_m_failed2, k_m_fault2, k_d_fresh2, k_m_hasHouse2, k_m_images2, k_d_letters2, k_m_nameSize2, k_m_place2, k_d_r2, k_m_size2, k_d_st2, k_m_taped2, k_m_thrown2, k_m_token2, k_m_trouble2, k_m_undos2, k_m_whole2, k_r⟩ := K
      exact ⟨by rw [k_m_thrown2, g1], k_m_taped2, k_m_size2, Or.inl ⟨e, hρ, k_m_fault2, k_m_place2, by rw [k_m_trouble2, n1], by rw [k_r, n2], k_m_hasHouse2, k_d_r2, k_d_st2, k_m_undos2, k_m_images2⟩⟩
    · rcases K with ⟨q0, z15, h15, K⟩ | ⟨q0, K⟩
      case inr =>
        have hρ' : ρ = .inl (1, v.2) := by
          rcases hρ with ⟨q, -⟩ | ⟨-, q⟩
          · exact absurd q q0
          · exact q
        obtain ⟨fd2, ft2, pl2, hb, tr2, r2, ⟨n1, n2⟩, k_m_at2, k_m_end2, k_m_failed2, k_m_fault2, k_d_fresh2, k_m_hasHouse2, k_m_images2, k_d_letters2, k_m_nameSize2, k_m_place2, k_d_r2, k_m_size2, k_d_st2, k_m_taped2, k_m_thrown2, k_m_token2, k_m_trouble2, k_m_undos2, k_m_whole2, k_r⟩ := K
        obtain ⟨b1, b2, b3⟩ := qm_bad rfl hb
        exact ⟨by rw [k_m_thrown2, g1], k_m_taped2, k_m_size2, Or.inl ⟨(1, v.2), hρ', by rw [k_m_fault2, b2], by rw [k_m_place2, b3], by rw [k_m_trouble2, n1], by rw [k_r, n2], k_m_hasHouse2, k_d_r2, k_d_st2, k_m_undos2, k_m_images2⟩⟩
      have hρ' : ((v.1 12 = 0 ∨ v.1 11 = 0) ∧ ρ = .inl (6, v.2)) ∨ ((v.1 15 ≠ 0 ∧ v.1 12 ≠ 0 ∧ v.1 11 ≠ 0) ∧ ρ = .inr v) := by
        rcases hρ with ⟨-, q⟩ | ⟨q, -⟩
        · exact q
        · exact absurd q0 q
      have S : ∀ (ft2 pl2 : Int32), ft2 = 6 → pl2 = v.2 → m_fault2 = ft2 → m_place2 = pl2 → ρ = .inl (6, v.2) → m_trouble2 = 4 → r = -1 → m_hasHouse2 = m_hasHouse ∧ d_r2 = d_r ∧ d_st2 = d_st ∧ m_undos2 = m_undos ∧ m_images2 = m_images → ((∃ e : Int32 × Int32, ρ = .inl e ∧ m_fault2 = e.1 ∧ m_place2 = e.2 ∧ m_trouble2 = 4 ∧ r = -1 ∧ m_hasHouse2 = m_hasHouse ∧ d_r2 = d_r ∧ d_st2 = d_st ∧ m_undos2 = m_undos ∧ m_images2 = m_images) ∨ (∃ v : (Nat → Int32) × Int32, ρ = .inr v ∧ m_fault2 = 0 ∧ m_trouble2 = 0 ∧ r = v.1 12 ∧ m_hasHouse2 = 1 ∧ (∀ i : Nat, i < 311 → d_r2 i = v.1 i) ∧ m_undos2 = 0 ∧ m_images2 = 0)) := fun ft2 pl2 a1 a2 a3 a4 a5 a6 a7 a8 => Or.inl ⟨(6, v.2), a5, by rw [a3, a1], by rw [a4, a2], a6, a7, a8⟩
      rcases K with ⟨q15, fd2, ft2, pl2, hb, tr2, r2, ⟨n1, n2⟩, k_m_at2, k_m_end2, k_m_failed2, k_m_fault2, k_d_fresh2, k_m_hasHouse2, k_m_images2, k_d_letters2, k_m_nameSize2, k_m_place2, k_d_r2, k_m_size2, k_d_st2, k_m_taped2, k_m_thrown2, k_m_token2, k_m_trouble2, k_m_undos2, k_m_whole2, k_r⟩ | ⟨q15, z12, h12, K⟩
      · obtain ⟨b1, b2, b3⟩ := qm_bad rfl hb
        have hh : ρ = .inl (6, v.2) := by
          rcases hρ' with ⟨-, q⟩ | ⟨q, -⟩
          · exact q
          · exact absurd (h15.symm.trans q15) q.1
        exact ⟨by rw [k_m_thrown2, g1], k_m_taped2, k_m_size2, S _ _ b2 b3 k_m_fault2 k_m_place2 hh (by rw [k_m_trouble2, n1]) (by rw [k_r, n2]) ⟨k_m_hasHouse2, k_d_r2, k_d_st2, k_m_undos2, k_m_images2⟩⟩
      rcases K with ⟨q12, fd2, ft2, pl2, hb, tr2, r2, ⟨n1, n2⟩, k_m_at2, k_m_end2, k_m_failed2, k_m_fault2, k_d_fresh2, k_m_hasHouse2, k_m_images2, k_d_letters2, k_m_nameSize2, k_m_place2, k_d_r2, k_m_size2, k_d_st2, k_m_taped2, k_m_thrown2, k_m_token2, k_m_trouble2, k_m_undos2, k_m_whole2, k_r⟩ | ⟨q12, z11, h11, K⟩
      · obtain ⟨b1, b2, b3⟩ := qm_bad rfl hb
        have hh : ρ = .inl (6, v.2) := by
          rcases hρ' with ⟨-, q⟩ | ⟨q, -⟩
          · exact q
          · exact absurd (h12.symm.trans q12) q.2.1
        exact ⟨by rw [k_m_thrown2, g1], k_m_taped2, k_m_size2, S _ _ b2 b3 k_m_fault2 k_m_place2 hh (by rw [k_m_trouble2, n1]) (by rw [k_r, n2]) ⟨k_m_hasHouse2, k_d_r2, k_d_st2, k_m_undos2, k_m_images2⟩⟩
      rcases K with ⟨q11, R3, hcp, f2', K⟩ | ⟨q11, fd2, ft2, pl2, hb, tr2, r2, ⟨n1, n2⟩, k_m_at2, k_m_end2, k_m_failed2, k_m_fault2, k_d_fresh2, k_m_hasHouse2, k_m_images2, k_d_letters2, k_m_nameSize2, k_m_place2, k_d_r2, k_m_size2, k_d_st2, k_m_taped2, k_m_thrown2, k_m_token2, k_m_trouble2, k_m_undos2, k_m_whole2, k_r⟩
      case inr =>
        obtain ⟨b1, b2, b3⟩ := qm_bad rfl hb
        have hh : ρ = .inl (6, v.2) := by
          rcases hρ' with ⟨-, q⟩ | ⟨q, -⟩
          · exact q
          · exact absurd (h11.symm.trans q11) q.2.2
        exact ⟨by rw [k_m_thrown2, g1], k_m_taped2, k_m_size2, S _ _ b2 b3 k_m_fault2 k_m_place2 hh (by rw [k_m_trouble2, n1]) (by rw [k_r, n2]) ⟨k_m_hasHouse2, k_d_r2, k_d_st2, k_m_undos2, k_m_images2⟩⟩
      have hh : ρ = .inr v := by
        rcases hρ' with ⟨q, -⟩ | ⟨-, q⟩
        · rcases q with q | q
          · exact absurd (h12.trans q) q12
          · exact absurd (h11.trans q) q11
        · exact q
      have cp := qm_copy hcp
      obtain ⟨S2, f3', K⟩ := qm_skip2 _ _ _ K
      obtain ⟨S3, f4', K⟩ := qm_skip3 _ _ _ K
      obtain ⟨S4, f5', K⟩ := qm_skip4 _ _ _ K
      obtain ⟨S5, f6', K⟩ := qm_skip5 _ _ _ K
      obtain ⟨S6, K⟩ := qm_skip6 _ _ _ K
      obtain ⟨k_m_at2, k_m_end2, k_m_failed2, k_m_fault2, k_d_fresh2, k_m_hasHouse2, k_m_images2, k_d_letters2, k_m_nameSize2, k_m_place2, k_d_r2, k_m_size2, k_d_st2, k_m_taped2, k_m_thrown2, k_m_token2, k_m_trouble2, k_m_undos2, k_m_whole2, k_r⟩ := K
      exact ⟨by rw [k_m_thrown2, g1], k_m_taped2, k_m_size2, Or.inr ⟨v, hh, k_m_fault2, by rw [k_m_trouble2, g2], by rw [k_r]; exact cp 12 (by omega), k_m_hasHouse2, by rw [k_d_r2]; exact cp, k_m_undos2, k_m_images2⟩⟩
  exact Or.inr ⟨hi, F0, hF0, hlast⟩
