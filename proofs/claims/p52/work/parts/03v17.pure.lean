set_option maxRecDepth 100000
set_option maxHeartbeats 4000000
theorem qx_isShowsLine {tp ndf qrf qmf qwf qpf qhnf qhtf qhjf qhmf qhbf qhsf qhcf ndg qrg qmg qwg qpg qhng qhtg qhjg qhmg qhbg qhsg qhcg F T : Nat → Int32} {nmf nmg : Nat → Int64} {le le2 : Int64} {fn fp n kd sta po va tk ta ndn qmd qtr qrn qmn qwn qpn qhnn qhtn qhjn qhmn qhbn qhsn qhcn fn2 fp2 kd2 sta2 po2 va2 tk2 ta2 ndk qrk qmk qwk qpk qmd2 qtr2 qhnk qhtk qhjk qhmk qhbk qhsk qhck r a : Int32} (hn : IV n 0 900) (ht : TpR tp T) (hH : HRel F ndn nmf ndf qrn qrf qmn qmf qwn qwf qpn qhnn qhtn qhjn qhmn qhbn qhsn qhcn) (hV : HV F qrf qmf qwf qpf qhnf qhtf qhjf qhmf qhbf qhsf qhcf) (h15 : F 15 ≠ 0) (hs : XS T n a kd sta po va le) (h : R_x_isShowsLineX fn fp n kd sta po va le tk ta tp nmf ndn ndf qmd qtr qrn qrf qmn qmf qwn qwf qpn qpf qhnn qhnf qhtn qhtf qhjn qhjf qhmn qhmf qhbn qhbf qhsn qhsf qhcn qhcf fn2 fp2 kd2 sta2 po2 va2 le2 tk2 ta2 nmg ndg ndk qrg qmg qwg qpg qrk qmk qwk qpk qmd2 qtr2 qhng qhtg qhjg qhmg qhbg qhsg qhcg qhnk qhtk qhjk qhmk qhbk qhsk qhck r) : XF T n (bnd (onceS F T n (bpos (F 12)) a) (showS F T n)) fn fp r fn2 fp2 kd2 sta2 po2 va2 le2 (fun G => HRel G ndk nmg ndg qrk qrg qmk qmg qwk qwg qpk qhnk qhtk qhjk qhmk qhbk qhsk qhck ∧ HV G qrg qmg qwg qpg qhng qhtg qhjg qhmg qhbg qhsg qhcg) ∨ (∃ b9 : Int32, bnd (onceS F T n (bpos (F 12)) a) (showS F T n) = .inl (1, b9) ∧ r = 1 ∧ fn2 = fn ∧ fp2 = fp ∧ XS T n b9 kd2 sta2 po2 va2 le2 ∧ tkF T n b9 ≠ 3 ∧ tkF T n b9 ≠ 0) := by
  have hH0 := hH
  refine exA14 hH ?_
  clear hH
  intro zc1 zc2 zc3 c12 cb cr cm cw cN cd f1' f2' f3' g1' g2'
  refine exA1 zc1 ?_
  clear zc1
  intro a1 a2
  refine exA8 zc2 ?_
  clear zc2
  intro b1 b2 b3 b4 b5 b6 b7 b8 b9
  refine exA7 zc3 ?_
  clear zc3
  intro i6 i7 i8 i9 i10 i11 i13 i14
  have e8 : (8 : Int32).toInt = 8 := by decide
  have e6 : (6 : Int32).toInt = 6 := by decide
  have hVn := hV.2.2.2.2.1 h15
  unfold R_x_isShowsLineX at h
  by_cases q12 : F 12 ≤ 0
  case neg =>
    refine Or.inl ?_
    rw [once_1 q12, bnd_l]
    rcases h with ⟨q, -⟩ | ⟨-, h⟩
    · rw [b7] at q; exact absurd q q12
    · obtain ⟨f, p, r2, ⟨b1', b2', b3'⟩, h⟩ := h
      have l1 := h.1
      have l2 := h.2.1
      have l37 := h.2.2.2.2.2.2.2.2.2.2.2.2.2.2.2.2.2.2.2.2.2.2.2.2.2.2.2.2.2.2.2.2.2.2.2.2
      obtain ⟨s1, s2, s3⟩ := hs
      exact ⟨by rw [l37, b3'], by rw [l1, b1'], by rw [l2, b2', s1]⟩
  rw [once_0 h15 q12, bnd_r]
  rcases h with ⟨-, h⟩ | ⟨q, -⟩
  case inr => rw [b7] at q; exact absurd q12 q
  obtain ⟨nf, h⟩ := h
  have z12 : (F 12).toInt = 0 := by rw [le_I, zI] at q12; have := c12.1; omega
  have K := show_cl (a := a) (qpf := qpf) (le := le) (kd := kd) (sta := sta) (po := po) (va := va) (tk := tk) (ta := ta) (qpn := qpn) hn ht cN (hVn 2 (by first | decide | omega)) nf 9 0 F qpf 0 qpn kd sta po va tk ta a le (by rw [b7, z12]; rfl) (by decide) (by omega) (by omega) (fun i _ => rfl) (fun k hk => by omega) hs h
  have e : showS F T n (nx T n a) = showG T n 9 0 F (nx T n a) := rfl
  rw [e]
  rcases K with K | K
  case inr => exact Or.inr K
  refine Or.inl ?_
  cases hc : showG T n 9 0 F (nx T n a) with
  | inl e => rw [hc] at K; exact K
  | inr v =>
    rw [hc] at K
    refine exA30 (XF_r K) ?_
    intro x1 x2 x3 xs K hp i12 hQ q0 q1 q2 q3 q4 q5 q6 q7 q8 q9 q10 q11 q12 q13 q14 q15 q16 q17 q18 q19 q20 q21 q22
    refine ⟨x1, x2, x3, xs, ?_⟩
    show HRel v.1 ndk nmg ndg qrk qrg qmk qmg qwk qwg qpk qhnk qhtk qhjk qhmk qhbk qhsk qhck ∧ HV v.1 qrg qmg qwg qpg qhng qhtg qhjg qhmg qhbg qhsg qhcg
    rw [q0, q1, q2, q3, q4, q5, q6, q7, q8, q9, q10, q11, q12, q13, q14, q15, q16, q17, q18, q19, q20, q21, q22]
    have hW := HV_shows (G := v.1) (g := qpg) hV ⟨i6, i7, i8, i9, i10, i11, i13, i14⟩ c12 (fun i _ q1 q2 => K i q1 q2) (fun k hk => by have := hQ k hk; rw [K 2 (by first | decide | omega) (by first | decide | omega)]; exact this)
    refine ⟨HG hH0 h15 (K 15 (by first | decide | omega) (by first | decide | omega)) (K 6 (by first | decide | omega) (by first | decide | omega)) (K 7 (by first | decide | omega) (by first | decide | omega)) (K 11 (by first | decide | omega) (by first | decide | omega)) (fun i q => K i (by omega) (by omega)) (fun j q => K _ (by omega) (by omega)) (by rw [K 8 (by first | decide | omega) (by first | decide | omega)]; exact i8) (by rw [K 9 (by first | decide | omega) (by first | decide | omega)]; exact i9) (by rw [K 10 (by first | decide | omega) (by first | decide | omega)]; exact i10) ⟨by have := i12.1; omega, i12.2⟩ (by rw [K 13 (by first | decide | omega) (by first | decide | omega)]; exact i13) (by rw [K 14 (by first | decide | omega) (by first | decide | omega)]; exact i14) (by rw [K 8 (by first | decide | omega) (by first | decide | omega)]; exact b3) (by rw [K 9 (by first | decide | omega) (by first | decide | omega)]; exact b4) (by rw [K 10 (by first | decide | omega) (by first | decide | omega)]; exact b5) hp (by rw [K 13 (by first | decide | omega) (by first | decide | omega)]; exact b8) (by rw [K 14 (by first | decide | omega) (by first | decide | omega)]; exact b9) (by rw [K 134 (by first | decide | omega) (by first | decide | omega)]; exact cb) (fun j q => by rw [K 8 (by first | decide | omega) (by first | decide | omega)] at q; rw [K _ (by omega) (by omega), K _ (by omega) (by omega)]; exact cm j q) (fun j q => by rw [K 10 (by first | decide | omega) (by first | decide | omega)] at q; rw [K _ (by omega) (by omega), K _ (by omega) (by omega)]; exact cw j q) (fun _ => by have := i12.1; omega), hW⟩
