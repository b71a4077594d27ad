set_option maxRecDepth 100000
set_option maxHeartbeats 4000000
theorem qx_isFollowed {tp ndf qrf qmf qwf qpf qhnf qhtf qhjf qhmf qhbf qhsf qhcf ndg qrg qmg qwg qpg qhng qhtg qhjg qhmg qhbg qhsg qhcg F T : Nat → Int32} {nmf nmg : Nat → Int64} {le le2 : Int64} {fn fp n kd sta po va tk ta ndn qmd qtr qrn qmn qwn qpn qhnn qhtn qhjn qhmn qhbn qhsn qhcn fn2 fp2 kd2 sta2 po2 va2 tk2 ta2 ndk qrk qmk qwk qpk qmd2 qtr2 qhnk qhtk qhjk qhmk qhbk qhsk qhck r a : Int32} (hn : IV n 0 900) (ht : TpR tp T) (hs : XS T n a kd sta po va le) (h : R_x_isFollowedX fn fp n kd sta po va le tk ta tp nmf ndn ndf qmd qtr qrn qrf qmn qmf qwn qwf qpn qpf qhnn qhnf qhtn qhtf qhjn qhjf qhmn qhmf qhbn qhbf qhsn qhsf qhcn qhcf fn2 fp2 kd2 sta2 po2 va2 le2 tk2 ta2 nmg ndg ndk qrg qmg qwg qpg qrk qmk qwk qpk qmd2 qtr2 qhng qhtg qhjg qhmg qhbg qhsg qhcg qhnk qhtk qhjk qhmk qhbk qhsk qhck r) : (tkF T n a = 3 ∧ r = 1 ∧ fn2 = fn ∧ fp2 = fp ∧ XS T n (nx T n a) kd2 sta2 po2 va2 le2 ∧ tk2 = tk ∧ ta2 = ta ∧ nmg = nmf ∧ ndk = ndn ∧ ndg = ndf ∧ qmd2 = qmd ∧ qtr2 = qtr ∧ qrk = qrn ∧ qrg = qrf ∧ qmk = qmn ∧ qmg = qmf ∧ qwk = qwn ∧ qwg = qwf ∧ qpk = qpn ∧ qpg = qpf ∧ qhnk = qhnn ∧ qhng = qhnf ∧ qhtk = qhtn ∧ qhtg = qhtf ∧ qhjk = qhjn ∧ qhjg = qhjf ∧ qhmk = qhmn ∧ qhmg = qhmf ∧ qhbk = qhbn ∧ qhbg = qhbf ∧ qhsk = qhsn ∧ qhsg = qhsf ∧ qhck = qhcn ∧ qhcg = qhcf) ∨ (tkF T n a = 0 ∧ ((qpn = 0 ∨ qhmn = 0) ∧ r = 0 ∧ fn2 = 6 ∧ fp2 = a ∨ (qpn ≠ 0 ∧ qhmn ≠ 0) ∧ r = 0 ∧ fn2 = fn ∧ fp2 = fp ∧ tk2 = tk ∧ ta2 = ta ∧ nmg = nmf ∧ ndk = ndn ∧ ndg = ndf ∧ qmd2 = qmd ∧ qtr2 = qtr ∧ qrk = qrn ∧ qrg = qrf ∧ qmk = qmn ∧ qmg = qmf ∧ qwk = qwn ∧ qwg = qwf ∧ qpk = qpn ∧ qpg = qpf ∧ qhnk = qhnn ∧ qhng = qhnf ∧ qhtk = qhtn ∧ qhtg = qhtf ∧ qhjk = qhjn ∧ qhjg = qhjf ∧ qhmk = qhmn ∧ qhmg = qhmf ∧ qhbk = qhbn ∧ qhbg = qhbf ∧ qhsk = qhsn ∧ qhsg = qhsf ∧ qhck = qhcn ∧ qhcg = qhcf)) ∨ (tkF T n a ≠ 3 ∧ tkF T n a ≠ 0 ∧ r = 0 ∧ fn2 = 1 ∧ fp2 = a) := by
  unfold R_x_isFollowedX at h
  have sa := hs.1
  have e1 : kd = tkF T n a := hs.2.2.1
  have keep : ∀ {A : Prop}, A → A := fun h => h
  rcases h with ⟨h3, h⟩ | ⟨h3, h⟩
  · have q3 : ¬ tkF T n a = 3 := fun q => h3 (e1.trans q)
    rcases h with ⟨h0, h⟩ | ⟨h0, h⟩
    · have q0 : tkF T n a = 0 := e1.symm.trans h0
      refine Or.inr (Or.inl ⟨q0, ?_⟩)
      rcases h with ⟨hp, f1, p1, r1, ⟨b1, b2, b3⟩, h⟩ | ⟨hp, h⟩
      · exact Or.inl ⟨Or.inl hp, by rw [h.2.2.2.2.2.2.2.2.2.2.2.2.2.2.2.2.2.2.2.2.2.2.2.2.2.2.2.2.2.2.2.2.2.2.2.2, b3], by rw [h.1, b1], by rw [h.2.1, b2, sa]⟩
      · rcases h with ⟨hm, h⟩ | ⟨hm, f1, p1, r1, ⟨b1, b2, b3⟩, h⟩
        · exact Or.inr ⟨⟨hp, hm⟩, h.2.2.2.2.2.2.2.2.2.2.2.2.2.2.2.2.2.2.2.2.2.2.2.2.2.2.2.2.2.2.2.2.2.2.2.2, h.1, h.2.1, h.2.2.2.2.2.2.2.1, h.2.2.2.2.2.2.2.2.1, h.2.2.2.2.2.2.2.2.2.1, h.2.2.2.2.2.2.2.2.2.2.2.1, h.2.2.2.2.2.2.2.2.2.2.1, h.2.2.2.2.2.2.2.2.2.2.2.2.2.2.2.2.2.2.2.2.1, h.2.2.2.2.2.2.2.2.2.2.2.2.2.2.2.2.2.2.2.2.2.1, h.2.2.2.2.2.2.2.2.2.2.2.2.2.2.2.2.1, h.2.2.2.2.2.2.2.2.2.2.2.2.1, h.2.2.2.2.2.2.2.2.2.2.2.2.2.2.2.2.2.1, h.2.2.2.2.2.2.2.2.2.2.2.2.2.1, h.2.2.2.2.2.2.2.2.2.2.2.2.2.2.2.2.2.2.1, h.2.2.2.2.2.2.2.2.2.2.2.2.2.2.1, h.2.2.2.2.2.2.2.2.2.2.2.2.2.2.2.2.2.2.2.1, h.2.2.2.2.2.2.2.2.2.2.2.2.2.2.2.1, h.2.2.2.2.2.2.2.2.2.2.2.2.2.2.2.2.2.2.2.2.2.2.2.2.2.2.2.2.2.1, h.2.2.2.2.2.2.2.2.2.2.2.2.2.2.2.2.2.2.2.2.2.2.1, h.2.2.2.2.2.2.2.2.2.2.2.2.2.2.2.2.2.2.2.2.2.2.2.2.2.2.2.2.2.2.1, h.2.2.2.2.2.2.2.2.2.2.2.2.2.2.2.2.2.2.2.2.2.2.2.1, h.2.2.2.2.2.2.2.2.2.2.2.2.2.2.2.2.2.2.2.2.2.2.2.2.2.2.2.2.2.2.2.1, h.2.2.2.2.2.2.2.2.2.2.2.2.2.2.2.2.2.2.2.2.2.2.2.2.1, h.2.2.2.2.2.2.2.2.2.2.2.2.2.2.2.2.2.2.2.2.2.2.2.2.2.2.2.2.2.2.2.2.1, h.2.2.2.2.2.2.2.2.2.2.2.2.2.2.2.2.2.2.2.2.2.2.2.2.2.1, h.2.2.2.2.2.2.2.2.2.2.2.2.2.2.2.2.2.2.2.2.2.2.2.2.2.2.2.2.2.2.2.2.2.1, h.2.2.2.2.2.2.2.2.2.2.2.2.2.2.2.2.2.2.2.2.2.2.2.2.2.2.1, h.2.2.2.2.2.2.2.2.2.2.2.2.2.2.2.2.2.2.2.2.2.2.2.2.2.2.2.2.2.2.2.2.2.2.1, h.2.2.2.2.2.2.2.2.2.2.2.2.2.2.2.2.2.2.2.2.2.2.2.2.2.2.2.1, h.2.2.2.2.2.2.2.2.2.2.2.2.2.2.2.2.2.2.2.2.2.2.2.2.2.2.2.2.2.2.2.2.2.2.2.1, h.2.2.2.2.2.2.2.2.2.2.2.2.2.2.2.2.2.2.2.2.2.2.2.2.2.2.2.2.1⟩
        · exact Or.inl ⟨Or.inr hm, by rw [h.2.2.2.2.2.2.2.2.2.2.2.2.2.2.2.2.2.2.2.2.2.2.2.2.2.2.2.2.2.2.2.2.2.2.2.2, b3], by rw [h.1, b1], by rw [h.2.1, b2, sa]⟩
    · obtain ⟨f1, p1, r1, ⟨b1, b2, b3⟩, h⟩ := h
      exact Or.inr (Or.inr ⟨q3, fun q => h0 (e1.trans q), by rw [h.2.2.2.2.2.2.2.2.2.2.2.2.2.2.2.2.2.2.2.2.2.2.2.2.2.2.2.2.2.2.2.2.2.2.2.2, b3], by rw [h.1, b1], by rw [h.2.1, b2, sa]⟩)
  · obtain ⟨k1, s1, p1, v1, l1, hx, h⟩ := h
    have xs := x_next_at hn ht hs hx
    refine Or.inl ⟨e1.symm.trans h3, h.2.2.2.2.2.2.2.2.2.2.2.2.2.2.2.2.2.2.2.2.2.2.2.2.2.2.2.2.2.2.2.2.2.2.2.2, h.1, h.2.1, ?_, h.2.2.2.2.2.2.2.1, h.2.2.2.2.2.2.2.2.1, h.2.2.2.2.2.2.2.2.2.1, h.2.2.2.2.2.2.2.2.2.2.2.1, h.2.2.2.2.2.2.2.2.2.2.1, h.2.2.2.2.2.2.2.2.2.2.2.2.2.2.2.2.2.2.2.2.1, h.2.2.2.2.2.2.2.2.2.2.2.2.2.2.2.2.2.2.2.2.2.1, h.2.2.2.2.2.2.2.2.2.2.2.2.2.2.2.2.1, h.2.2.2.2.2.2.2.2.2.2.2.2.1, h.2.2.2.2.2.2.2.2.2.2.2.2.2.2.2.2.2.1, h.2.2.2.2.2.2.2.2.2.2.2.2.2.1, h.2.2.2.2.2.2.2.2.2.2.2.2.2.2.2.2.2.2.1, h.2.2.2.2.2.2.2.2.2.2.2.2.2.2.1, h.2.2.2.2.2.2.2.2.2.2.2.2.2.2.2.2.2.2.2.1, h.2.2.2.2.2.2.2.2.2.2.2.2.2.2.2.1, h.2.2.2.2.2.2.2.2.2.2.2.2.2.2.2.2.2.2.2.2.2.2.2.2.2.2.2.2.2.1, h.2.2.2.2.2.2.2.2.2.2.2.2.2.2.2.2.2.2.2.2.2.2.1, h.2.2.2.2.2.2.2.2.2.2.2.2.2.2.2.2.2.2.2.2.2.2.2.2.2.2.2.2.2.2.1, h.2.2.2.2.2.2.2.2.2.2.2.2.2.2.2.2.2.2.2.2.2.2.2.1, h.2.2.2.2.2.2.2.2.2.2.2.2.2.2.2.2.2.2.2.2.2.2.2.2.2.2.2.2.2.2.2.1, h.2.2.2.2.2.2.2.2.2.2.2.2.2.2.2.2.2.2.2.2.2.2.2.2.1, h.2.2.2.2.2.2.2.2.2.2.2.2.2.2.2.2.2.2.2.2.2.2.2.2.2.2.2.2.2.2.2.2.1, h.2.2.2.2.2.2.2.2.2.2.2.2.2.2.2.2.2.2.2.2.2.2.2.2.2.1, h.2.2.2.2.2.2.2.2.2.2.2.2.2.2.2.2.2.2.2.2.2.2.2.2.2.2.2.2.2.2.2.2.2.1, h.2.2.2.2.2.2.2.2.2.2.2.2.2.2.2.2.2.2.2.2.2.2.2.2.2.2.1, h.2.2.2.2.2.2.2.2.2.2.2.2.2.2.2.2.2.2.2.2.2.2.2.2.2.2.2.2.2.2.2.2.2.2.1, h.2.2.2.2.2.2.2.2.2.2.2.2.2.2.2.2.2.2.2.2.2.2.2.2.2.2.2.1, h.2.2.2.2.2.2.2.2.2.2.2.2.2.2.2.2.2.2.2.2.2.2.2.2.2.2.2.2.2.2.2.2.2.2.2.1, h.2.2.2.2.2.2.2.2.2.2.2.2.2.2.2.2.2.2.2.2.2.2.2.2.2.2.2.2.1⟩
    rw [h.2.2.1, h.2.2.2.1, h.2.2.2.2.1, h.2.2.2.2.2.1, h.2.2.2.2.2.2.1]
    exact xs
theorem HRel_no {F : Nat → Int32} {ndn qrn qmn qwn qpn qhnn qhtn qhjn qhmn qhbn qhsn qhcn : Int32} {nmf : Nat → Int64} {ndf qrf qmf qwf : Nat → Int32} (hH : HRel F ndn nmf ndf qrn qrf qmn qmf qwn qwf qpn qhnn qhtn qhjn qhmn qhbn qhsn qhcn) (h : F 15 = 0) : F 12 = 0 := by
  refine exA14 hH ?_
  clear hH
  intro zc1 zc2 zc3 zc4 zc5 zc6 zc7 zc8 zc9 zc10 zc11 zc12 zc13 g1 zc14
  clear zc1
  clear zc2
  clear zc3
  clear zc4
  clear zc5
  clear zc6
  clear zc7
  clear zc8
  clear zc9
  clear zc10
  clear zc11
  clear zc12
  clear zc13
  clear zc14
  exact (g1 h).2.2.2.2.2.2.1
def XR (ρ : Rs ((Nat → Int32) × Int32)) (fn2 fp2 : Int32) (H : (Nat → Int32) → Prop) : Prop := match ρ with
  | .inl e => fn2 = e.1 ∧ fp2 = e.2
  | .inr v => fn2 = 0 ∧ fp2 = 0 ∧ H v.1
theorem qx_read0 {T tp : Nat → Int32} {n : Int32} {fn2 fp2 kd2 sta2 po2 va2 : Int32} {le2 : Int64} {tk2 ta2 : Int32} {nmg : Nat → Int64} {ndg : Nat → Int32} {ndk : Int32} {qrg qmg qwg qpg : Nat → Int32} {qrk qmk qwk qpk qmd2 qtr2 : Int32} {qhng qhtg qhjg qhmg qhbg qhsg qhcg : Nat → Int32} {qhnk qhtk qhjk qhmk qhbk qhsk qhck : Int32} (hn : IV n 0 900) (ht : TpR tp T) : ∀ (f : Nat) (F : Nat → Int32) (a lines : Int32) (fn fp kd sta po va : Int32) (le : Int64) (tk ta : Int32) (nmf : Nat → Int64) (ndn : Int32) (ndf : Nat → Int32) (qmd qtr qrn : Int32) (qrf : Nat → Int32) (qmn : Int32) (qmf : Nat → Int32) (qwn : Int32) (qwf : Nat → Int32) (qpn : Int32) (qpf : Nat → Int32) (qhnn : Int32) (qhnf : Nat → Int32) (qhtn : Int32) (qhtf : Nat → Int32) (qhjn : Int32) (qhjf : Nat → Int32) (qhmn : Int32) (qhmf : Nat → Int32) (qhbn : Int32) (qhbf : Nat → Int32) (qhsn : Int32) (qhsf : Nat → Int32) (qhcn : Int32) (qhcf : Nat → Int32), HRel F ndn nmf ndf qrn qrf qmn qmf qwn qwf qpn qhnn qhtn qhjn qhmn qhbn qhsn qhcn ∧ HV F qrf qmf qwf qpf qhnf qhtf qhjf qhmf qhbf qhsf qhcf ∧ RV F → XS T n a kd sta po va le → lines.toInt ≤ a.toInt → lines.toInt ≤ n.toInt → 0 ≤ lines.toInt → fn = 0 → fp = 0 → R_x_readX_L0 n tp (fun (u_62 : Int32) (u_63 : Int32) (u_64 : Int32) (u_65 : Int32) (u_56 : Int32) (u_58 : Int32) (u_59 : Int64) (u_60 : Int32) (u_61 : Int32) (uf_40 : Nat → Int64) (uf_39 : Nat → Int32) (u_67 : Int32) (uf_50 : Nat → Int32) (uf_48 : Nat → Int32) (uf_51 : Nat → Int32) (uf_49 : Nat → Int32) (u_77 : Int32) (u_75 : Int32) (u_80 : Int32) (u_76 : Int32) (u_78 : Int32) (u_79 : Int32) (uf_45 : Nat → Int32) (uf_47 : Nat → Int32) (uf_43 : Nat → Int32) (uf_44 : Nat → Int32) (uf_41 : Nat → Int32) (uf_46 : Nat → Int32) (uf_42 : Nat → Int32) (u_72 : Int32) (u_74 : Int32) (u_70 : Int32) (u_71 : Int32) (u_68 : Int32) (u_73 : Int32) (u_69 : Int32) => fn2 = u_62 ∧ fp2 = u_63 ∧ kd2 = u_64 ∧ sta2 = u_65 ∧ po2 = u_56 ∧ va2 = u_58 ∧ le2 = u_59 ∧ tk2 = u_60 ∧ ta2 = u_61 ∧ nmg = uf_40 ∧ ndg = uf_39 ∧ ndk = u_67 ∧ qrg = uf_50 ∧ qmg = uf_48 ∧ qwg = uf_51 ∧ qpg = uf_49 ∧ qrk = u_77 ∧ qmk = u_75 ∧ qwk = u_80 ∧ qpk = u_76 ∧ qmd2 = u_78 ∧ qtr2 = u_79 ∧ qhng = uf_45 ∧ qhtg = uf_47 ∧ qhjg = uf_43 ∧ qhmg = uf_44 ∧ qhbg = uf_41 ∧ qhsg = uf_46 ∧ qhcg = uf_42 ∧ qhnk = u_72 ∧ qhtk = u_74 ∧ qhjk = u_70 ∧ qhmk = u_71 ∧ qhbk = u_68 ∧ qhsk = u_73 ∧ qhck = u_69) (fun (u_62 : Int32) (u_63 : Int32) (u_64 : Int32) (u_65 : Int32) (u_56 : Int32) (u_58 : Int32) (u_59 : Int64) (u_60 : Int32) (u_61 : Int32) (uf_40 : Nat → Int64) (uf_39 : Nat → Int32) (u_67 : Int32) (uf_50 : Nat → Int32) (uf_48 : Nat → Int32) (uf_51 : Nat → Int32) (uf_49 : Nat → Int32) (u_77 : Int32) (u_75 : Int32) (u_80 : Int32) (u_76 : Int32) (u_78 : Int32) (u_79 : Int32) (uf_45 : Nat → Int32) (uf_47 : Nat → Int32) (uf_43 : Nat → Int32) (uf_44 : Nat → Int32) (uf_41 : Nat → Int32) (uf_46 : Nat → Int32) (uf_42 : Nat → Int32) (u_72 : Int32) (u_74 : Int32) (u_70 : Int32) (u_71 : Int32) (u_68 : Int32) (u_73 : Int32) (u_69 : Int32) => fn2 = u_62 ∧ fp2 = u_63 ∧ kd2 = u_64 ∧ sta2 = u_65 ∧ po2 = u_56 ∧ va2 = u_58 ∧ le2 = u_59 ∧ tk2 = u_60 ∧ ta2 = u_61 ∧ nmg = uf_40 ∧ ndg = uf_39 ∧ ndk = u_67 ∧ qrg = uf_50 ∧ qmg = uf_48 ∧ qwg = uf_51 ∧ qpg = uf_49 ∧ qrk = u_77 ∧ qmk = u_75 ∧ qwk = u_80 ∧ qpk = u_76 ∧ qmd2 = u_78 ∧ qtr2 = u_79 ∧ qhng = uf_45 ∧ qhtg = uf_47 ∧ qhjg = uf_43 ∧ qhmg = uf_44 ∧ qhbg = uf_41 ∧ qhsg = uf_46 ∧ qhcg = uf_42 ∧ qhnk = u_72 ∧ qhtk = u_74 ∧ qhjk = u_70 ∧ qhmk = u_71 ∧ qhbk = u_68 ∧ qhsk = u_73 ∧ qhck = u_69) f ndf nmf qhbf qhcf qhjf qhmf qhnf qhsf qhtf qmf qpf qrf qwf 1 lines po va le tk ta fn fp kd sta ndn qhbn qhcn qhjn qhmn qhnn qhsn qhtn qmn qpn qrn qmd qtr qwn → ∃ (k : Nat) (ρ : Rs ((Nat → Int32) × Int32)), TxR T n k F a ρ ∧ XR ρ fn2 fp2 (fun G => HRel G ndk nmg ndg qrk qrg qmk qmg qwk qwg qpk qhnk qhtk qhjk qhmk qhbk qhsk qhck ∧ HV G qrg qmg qwg qpg qhng qhtg qhjg qhmg qhbg qhsg qhcg ∧ RV G) := by
  intro f
  induction f with
  | zero => intros; rename_i h; exact h.elim
  | succ f ih =>
    intro F a lines fn fp kd sta po va le tk ta nmf ndn ndf qmd qtr qrn qrf qmn qmf qwn qwf qpn qpf qhnn qhnf qhtn qhtf qhjn qhjf qhmn qhmf qhbn qhbf qhsn qhsf qhcn qhcf hHV hs hl1 hl2 hl0 hf0 hp0 h
    obtain ⟨hH, hV, hRV⟩ := hHV
    unfold R_x_readX_L0 at h
    rcases h with ⟨q, -⟩ | ⟨-, h⟩
    · exact absurd q one0
    rcases h with ⟨q, -⟩ | ⟨-, h⟩
    · rw [lt_I] at q; omega
    refine exE37 h ?_
    clear h
    intro y0 y1 y2 y3 y4 y5 y6 y7 y8 y9 y10 y11 y12 y13 y14 y15 y16 y17 y18 y19 y20 y21 y22 y23 y24 y25 y26 y27 y28 y29 y30 y31 y32 y33 y34 y35 y36 hl h
    have m1 := qx_isLine (a := a) hn ht hH hV hs hl
    rcases m1 with m1 | ⟨b9, e9, x1, x2, x3, xs, n3, n0⟩
    case inr =>
      replace h := pk1 h x1
      refine exE37 h ?_
      clear h
      intro w0 w1 w2 w3 w4 w5 w6 w7 w8 w9 w10 w11 w12 w13 w14 w15 w16 w17 w18 w19 w20 w21 w22 w23 w24 w25 w26 w27 w28 w29 w30 w31 w32 w33 w34 w35 w36 hl2 h
      have m2 := qx_isFollowed (F := F) (a := b9) hn ht xs hl2
      rcases m2 with ⟨g1, -⟩ | ⟨g1, -⟩ | ⟨-, -, g1, g2, g3⟩
      · exact absurd g1 n3
      · exact absurd g1 n0
      replace h := pf1 h g1
      obtain ⟨z, hz, h⟩ := h
      cases f with
      | zero => exact h.elim
      | succ f =>
        unfold R_x_readX_L0 at h
        rcases h with ⟨-, h⟩ | ⟨q, -⟩
        case inr => exact absurd rfl q
        refine ⟨1, .inl (1, b9), ⟨hH.2.2.1, Or.inl ⟨(1, b9), e9, rfl⟩⟩, ?_, ?_⟩
        · show fn2 = 1; rw [h.1, g2]
        · show fp2 = b9; rw [h.2.1, g3]
    cases hc : lineS F T n a with
    | inl e =>
      rw [hc] at m1
      refine exA2 (XF_l m1) ?_
      intro x1 x2 x3
      replace h := pf1 h x1
      obtain ⟨z, hz, h⟩ := h
      cases f with
      | zero => exact h.elim
      | succ f =>
        unfold R_x_readX_L0 at h
        rcases h with ⟨-, h⟩ | ⟨q, -⟩
        case inr => exact absurd rfl q
        refine ⟨1, .inl e, ⟨hH.2.2.1, Or.inl ⟨e, hc, rfl⟩⟩, ?_, ?_⟩
        · rw [h.1, x2]
        · rw [h.2.1, x3]
    | inr v =>
      rw [hc] at m1
      refine exA4 (XF_r m1) ?_
      intro x1 x2 x3 xs H2
      have up := up_line hn hs.2.1 v hc
      have hRV2 := RV_line hH.2.2.1 hH.2.2.2.1 hH.2.2.2.2.2.2.2.2.2.2.1 hH.2.2.2.2.2.2.2.2.2.2.2.1 hRV hc
      replace h := pk1 h x1
      refine exE37 h ?_
      clear h
      intro w0 w1 w2 w3 w4 w5 w6 w7 w8 w9 w10 w11 w12 w13 w14 w15 w16 w17 w18 w19 w20 w21 w22 w23 w24 w25 w26 w27 w28 w29 w30 w31 w32 w33 w34 w35 w36 hl2 h
      have m2 := qx_isFollowed (F := F) (a := v.2) hn ht xs hl2
      rcases m2 with ⟨g1, g2, g3, g4, xs2, k0, k1, k2, k3, k4, k5, k6, k7, k8, k9, k10, k11, k12, k13, k14, k15, k16, k17, k18, k19, k20, k21, k22, k23, k24, k25, k26, k27, k28⟩ | ⟨g1, ⟨g5, g2, g3, g4⟩ | ⟨g5, g2, g3, g4, k0, k1, k2, k3, k4, k5, k6, k7, k8, k9, k10, k11, k12, k13, k14, k15, k16, k17, k18, k19, k20, k21, k22, k23, k24, k25, k26, k27, k28⟩⟩ | ⟨g0, g1, g2, g3, g4⟩
      · have semi := nx_semi hn up.2 g1
        replace h := pk1 h g2
        obtain ⟨z, hz, h⟩ := h
        rw [ofI1] at hz
        have ez := inc1 (u := lines) (z := z) (a := 0) (b := 900) ⟨by omega, by have := hn.2; omega⟩ (by omega) (by omega) hz.symm
        subst k0 k1 k2 k3 k4 k5 k6 k7 k8 k9 k10 k11 k12 k13 k14 k15 k16 k17 k18 k19 k20 k21 k22 k23 k24 k25 k26 k27 k28
        obtain ⟨k, ρ, q1, q2⟩ := ih v.1 (nx T n v.2) z _ _ _ _ _ _ _ _ _ _ _ _ _ _ _ _ _ _ _ _ _ _ _ _ _ _ _ _ _ _ _ _ _ _ _ _ ⟨H2.1, H2.2, hRV2⟩ xs2 (by omega) (by omega) (by omega) (by rw [g3, x2, hf0]) (by rw [g4, x3, hp0]) h
        exact ⟨k + 1, ρ, ⟨hH.2.2.1, Or.inr ⟨v, hc, Or.inl ⟨g1, q1⟩⟩⟩, q2⟩
      · replace h := pf1 h g2
        obtain ⟨z, hz, h⟩ := h
        cases f with
        | zero => exact h.elim
        | succ f =>
          unfold R_x_readX_L0 at h
          rcases h with ⟨-, h⟩ | ⟨q, -⟩
          case inr => exact absurd rfl q
          have e12 := H2.1.2.1.2.2.2.2.2.2.1
          have e11 := H2.1.2.1.2.2.2.2.2.1
          rw [e12, e11] at g5
          refine ⟨1, .inl (6, v.2), ⟨hH.2.2.1, Or.inr ⟨v, hc, Or.inr (Or.inl ⟨g1, Or.inl ⟨g5, rfl⟩⟩)⟩⟩, ?_, ?_⟩
          · show fn2 = 6; rw [h.1, g3]
          · show fp2 = v.2; rw [h.2.1, g4]
      · replace h := pf1 h g2
        obtain ⟨z, hz, h⟩ := h
        cases f with
        | zero => exact h.elim
        | succ f =>
          unfold R_x_readX_L0 at h
          rcases h with ⟨-, h⟩ | ⟨q, -⟩
          case inr => exact absurd rfl q
          have e12 := H2.1.2.1.2.2.2.2.2.2.1
          have e11 := H2.1.2.1.2.2.2.2.2.1
          rw [e12, e11] at g5
          refine ⟨1, .inr v, ⟨hH.2.2.1, Or.inr ⟨v, hc, Or.inr (Or.inl ⟨g1, Or.inr ⟨⟨fun w => g5.1 (HRel_no H2.1 w), g5⟩, rfl⟩⟩)⟩⟩, ?_, ?_, ?_⟩
          · rw [h.1, g3, x2, hf0]
          · rw [h.2.1, g4, x3, hp0]
          · show HRel v.1 ndk nmg ndg qrk qrg qmk qmg qwk qwg qpk qhnk qhtk qhjk qhmk qhbk qhsk qhck ∧ HV v.1 qrg qmg qwg qpg qhng qhtg qhjg qhmg qhbg qhsg qhcg ∧ RV v.1
            subst k0 k1 k2 k3 k4 k5 k6 k7 k8 k9 k10 k11 k12 k13 k14 k15 k16 k17 k18 k19 k20 k21 k22 k23 k24 k25 k26 k27 k28
            rw [h.2.2.2.2.2.2.2.2.2.2.2.1, h.2.2.2.2.2.2.2.2.2.1, h.2.2.2.2.2.2.2.2.2.2.1, h.2.2.2.2.2.2.2.2.2.2.2.2.2.2.2.2.1, h.2.2.2.2.2.2.2.2.2.2.2.2.1, h.2.2.2.2.2.2.2.2.2.2.2.2.2.2.2.2.2.1, h.2.2.2.2.2.2.2.2.2.2.2.2.2.1, h.2.2.2.2.2.2.2.2.2.2.2.2.2.2.2.2.2.2.1, h.2.2.2.2.2.2.2.2.2.2.2.2.2.2.1, h.2.2.2.2.2.2.2.2.2.2.2.2.2.2.2.2.2.2.2.1, h.2.2.2.2.2.2.2.2.2.2.2.2.2.2.2.2.2.2.2.2.2.2.2.2.2.2.2.2.2.1, h.2.2.2.2.2.2.2.2.2.2.2.2.2.2.2.2.2.2.2.2.2.2.2.2.2.2.2.2.2.2.1, h.2.2.2.2.2.2.2.2.2.2.2.2.2.2.2.2.2.2.2.2.2.2.2.2.2.2.2.2.2.2.2.1, h.2.2.2.2.2.2.2.2.2.2.2.2.2.2.2.2.2.2.2.2.2.2.2.2.2.2.2.2.2.2.2.2.1, h.2.2.2.2.2.2.2.2.2.2.2.2.2.2.2.2.2.2.2.2.2.2.2.2.2.2.2.2.2.2.2.2.2.1, h.2.2.2.2.2.2.2.2.2.2.2.2.2.2.2.2.2.2.2.2.2.2.2.2.2.2.2.2.2.2.2.2.2.2.1, h.2.2.2.2.2.2.2.2.2.2.2.2.2.2.2.2.2.2.2.2.2.2.2.2.2.2.2.2.2.2.2.2.2.2.2, h.2.2.2.2.2.2.2.2.2.2.2.2.2.2.2.1, h.2.2.2.2.2.2.2.2.2.2.2.2.2.2.2.2.2.2.2.2.2.2.1, h.2.2.2.2.2.2.2.2.2.2.2.2.2.2.2.2.2.2.2.2.2.2.2.1, h.2.2.2.2.2.2.2.2.2.2.2.2.2.2.2.2.2.2.2.2.2.2.2.2.1, h.2.2.2.2.2.2.2.2.2.2.2.2.2.2.2.2.2.2.2.2.2.2.2.2.2.1, h.2.2.2.2.2.2.2.2.2.2.2.2.2.2.2.2.2.2.2.2.2.2.2.2.2.2.1, h.2.2.2.2.2.2.2.2.2.2.2.2.2.2.2.2.2.2.2.2.2.2.2.2.2.2.2.1, h.2.2.2.2.2.2.2.2.2.2.2.2.2.2.2.2.2.2.2.2.2.2.2.2.2.2.2.2.1]
            exact ⟨H2.1, H2.2, hRV2⟩
      · replace h := pf1 h g2
        obtain ⟨z, hz, h⟩ := h
        cases f with
        | zero => exact h.elim
        | succ f =>
          unfold R_x_readX_L0 at h
          rcases h with ⟨-, h⟩ | ⟨q, -⟩
          case inr => exact absurd rfl q
          refine ⟨1, .inl (1, v.2), ⟨hH.2.2.1, Or.inr ⟨v, hc, Or.inr (Or.inr ⟨g0, g1, rfl⟩)⟩⟩, ?_, ?_⟩
          · show fn2 = 1; rw [h.1, g3]
          · show fp2 = v.2; rw [h.2.1, g4]

theorem NRel_0 {F : Nat → Int32} {nmf : Nat → Int64} {ndf : Nat → Int32} (hF : ∀ i : Nat, i < 311 → F i = 0) : NRel F nmf ndf 0 := by
  refine ⟨⟨by decide, by decide⟩, fun i hi => ?_, fun j hj h => ?_, fun i i' hi _ _ => ?_⟩
  · rw [zI] at hi; omega
  · rw [hF _ (by omega), zI] at h; omega
  · rw [zI] at hi; omega
theorem HRel_0 {F : Nat → Int32} {nmf : Nat → Int64} {ndf qrf qmf qwf : Nat → Int32} (hF : ∀ i : Nat, i < 311 → F i = 0) : HRel F 0 nmf ndf 0 qrf 0 qmf 0 qwf 0 0 0 0 0 0 0 0 := by
  have z := fun i h => hF i h
  have I : ∀ (i : Nat) (b : Int), i < 311 → 0 ≤ b → IV (F i) 0 b := fun i b h hb => by rw [hF i h, IV, zI]; omega
  refine ⟨⟨(hF 15 (by first | decide | omega)).symm, Or.inl (hF 15 (by first | decide | omega))⟩, ⟨(hF 6 (by first | decide | omega)).symm, (hF 7 (by first | decide | omega)).symm, (hF 8 (by first | decide | omega)).symm, (hF 9 (by first | decide | omega)).symm, (hF 10 (by first | decide | omega)).symm, (hF 11 (by first | decide | omega)).symm, (hF 12 (by first | decide | omega)).symm, (hF 13 (by first | decide | omega)).symm, (hF 14 (by first | decide | omega)).symm⟩, ⟨I 6 8 (by first | decide | omega) (by first | decide | omega), I 7 4 (by first | decide | omega) (by first | decide | omega), I 8 12 (by first | decide | omega) (by first | decide | omega), I 9 8 (by first | decide | omega) (by first | decide | omega), I 10 6 (by first | decide | omega) (by first | decide | omega), I 11 4 (by first | decide | omega) (by first | decide | omega), I 13 6 (by first | decide | omega) (by first | decide | omega), I 14 6 (by first | decide | omega) (by first | decide | omega)⟩, I 12 8 (by first | decide | omega) (by first | decide | omega), Or.inl ⟨rfl, hF 134 (by first | decide | omega)⟩, ?_, ?_, ?_, NRel_0 hF, ?_, ?_, ?_, ?_, fun _ => ⟨hF 6 (by first | decide | omega), hF 7 (by first | decide | omega), hF 8 (by first | decide | omega), hF 9 (by first | decide | omega), hF 10 (by first | decide | omega), hF 11 (by first | decide | omega), hF 12 (by first | decide | omega), hF 13 (by first | decide | omega), hF 14 (by first | decide | omega), hF 134 (by first | decide | omega)⟩, ?_⟩
  · intro k hk; rw [hF 6 (by first | decide | omega), zI] at hk; omega
  · intro k hk; rw [hF 8 (by first | decide | omega), zI] at hk; omega
  · intro k hk; rw [hF 10 (by first | decide | omega), zI] at hk; omega
  · rw [hF 6 (by first | decide | omega), hF 7 (by first | decide | omega), hF 11 (by first | decide | omega), zI]; rfl
  · intro j hj _; rw [hF _ (by omega), zI]; omega
  · intro j hj _; rw [hF _ (by omega), zI]; omega
  · intro j hj _; rw [hF _ (by omega), zI]; omega
  · intro h; rw [hF 13 (by first | decide | omega), zI] at h; omega
theorem HV_0 {F qrf qmf qwf qpf qhnf qhtf qhjf qhmf qhbf qhsf qhcf : Nat → Int32} (hF : ∀ i : Nat, i < 311 → F i = 0) : HV F qrf qmf qwf qpf qhnf qhtf qhjf qhmf qhbf qhsf qhcf := ⟨TV_nil (hF 6 (by first | decide | omega)), TV_nil (hF 8 (by first | decide | omega)), TV_nil (hF 10 (by first | decide | omega)), fun k hk => by rw [hF 12 (by first | decide | omega), zI] at hk; omega, fun q => absurd (hF 15 (by first | decide | omega)) q, TV_nil (hF 7 (by first | decide | omega)), TV_nil (hF 9 (by first | decide | omega)), fun k hk => by rw [hF 11 (by first | decide | omega), zI] at hk; omega, fun q => by rw [hF 134 (by first | decide | omega), zI] at q; exact absurd q (by decide), TV_nil (hF 13 (by first | decide | omega)), TV_nil (hF 14 (by first | decide | omega))⟩
theorem RV0_0 {F : Nat → Int32} (hF : ∀ i : Nat, i < 311 → F i = 0) : RV0 F := ⟨fun k hk => by rw [hF 8 (by first | decide | omega), zI] at hk; omega, fun k hk => by rw [hF 8 (by first | decide | omega), zI] at hk; omega, fun k hk => by rw [hF 9 (by first | decide | omega), zI] at hk; omega, fun k hk => by rw [hF 10 (by first | decide | omega), zI] at hk; omega, fun k hk => by rw [hF 12 (by first | decide | omega), zI] at hk; omega, fun k hk => by rw [hF 14 (by first | decide | omega), zI] at hk; omega, fun k hk => by rw [hF 11 (by first | decide | omega), zI] at hk; omega⟩
theorem RV_0 {F : Nat → Int32} (hF : ∀ i : Nat, i < 311 → F i = 0) : RV F := ⟨RV0_0 hF, VB_0 (fun i hi => hF i (by omega))⟩
theorem qx_read {T : Nat → Int32} {n tk ta : Int32} {tp : Nat → Int32} {nmf : Nat → Int64} {ndf qrf qmf qwf qpf qhnf qhtf qhjf qhmf qhbf qhsf qhcf : Nat → Int32} {fn2 fp2 kd2 sta2 po2 va2 : Int32} {le2 : Int64} {tk2 ta2 : Int32} {nmg : Nat → Int64} {ndg : Nat → Int32} {ndk : Int32} {qrg qmg qwg qpg : Nat → Int32} {qrk qmk qwk qpk qmd2 qtr2 : Int32} {qhng qhtg qhjg qhmg qhbg qhsg qhcg : Nat → Int32} {qhnk qhtk qhjk qhmk qhbk qhsk qhck : Int32} {F0 : Nat → Int32} (hn : IV n 0 900) (ht : TpR tp T) (hF : ∀ i : Nat, i < 311 → F0 i = 0) (h : R_x_readX n tk ta tp nmf ndf qrf qmf qwf qpf qhnf qhtf qhjf qhmf qhbf qhsf qhcf fn2 fp2 kd2 sta2 po2 va2 le2 tk2 ta2 nmg ndg ndk qrg qmg qwg qpg qrk qmk qwk qpk qmd2 qtr2 qhng qhtg qhjg qhmg qhbg qhsg qhcg qhnk qhtk qhjk qhmk qhbk qhsk qhck) : ∃ (k : Nat) (ρ : Rs ((Nat → Int32) × Int32)), TxR T n k F0 (rn T n 5 0) ρ ∧ XR ρ fn2 fp2 (fun G => HRel G ndk nmg ndg qrk qrg qmk qmg qwk qwg qpk qhnk qhtk qhjk qhmk qhbk qhsk qhck ∧ HV G qrg qmg qwg qpg qhng qhtg qhjg qhmg qhbg qhsg qhcg ∧ RV G) := by
  unfold R_x_readX at h
  refine exE24 h ?_
  clear h
  intro y0 y1 y2 y3 y4 y5 y6 y7 y8 y9 y10 y11 y12 y13 y14 y15 y16 y17 y18 y19 y20 y21 y22 y23 hcl h
  refine exE5 h ?_
  clear h
  intro k1 s1 p1 v1 l1 hx h
  obtain ⟨f, h⟩ := h
  unfold R_h_clearX R_s_clearX at hcl
  obtain ⟨z0, z1, z2, z3, z4, z5, z6, z7, z8, z9, ⟨c0, c1, c2, c3, c4, c5, c6, c7, c8, c9⟩, e0, e1, e2, e3, e4, e5, e6, e7, e8, e9, e10, e11, e12, e13, e14, e15, e16, e17, e18, e19, e20, e21, e22, e23⟩ := hcl
  subst c0 c1 c2 c3 c4 c5 c6 c7 c8 c9
  subst e0 e1 e2 e3 e4 e5 e6 e7 e8 e9 e10 e11 e12 e13 e14 e15 e16 e17 e18 e19 e20 e21 e22 e23
  obtain ⟨t1, t2⟩ := x_next_spec hn ht ⟨by decide, by decide⟩ hx
  have i0 : IV (rn T n 5 0) 0 900 := ⟨by have := rn_ge (T := T) (k := 5) (u := 0) hn (by decide) ⟨by decide, by decide⟩; rw [zI] at this; omega, (rn_ge (T := T) (k := 5) (u := 0) hn (by decide) ⟨by decide, by decide⟩).2⟩
  exact qx_read0 hn ht f F0 (rn T n 5 0) 0 _ _ _ _ _ _ _ _ _ _ _ _ _ _ _ _ _ _ _ _ _ _ _ _ _ _ _ _ _ _ _ _ _ _ _ _ ⟨HRel_0 hF, HV_0 hF, RV_0 hF⟩ ⟨t1, i0, t2⟩ (by rw [zI]; exact i0.1) (by rw [zI]; exact hn.1) (by decide) rfl rfl h

set_option maxRecDepth 100000
set_option maxHeartbeats 4000000
def MT (ρ : Rs ((Nat → Int32) × Int32)) (κ0 : Int32 → Int32 → Int32 → Int32 → (Nat → Int32) → (Nat → Int32) → Int32 → Int32 → Int32 → Int32 → Prop) (κ1 : Int32 → (Nat → Int32) → Int32 → Int32 → Int32 → Int32 → Int32 → (Nat → Int32) → Int32 → Int32 → Prop) : Prop :=
  (∃ (e : Int32 × Int32) (A E N t w : Int32) (F L : Nat → Int32), ρ = .inl e ∧ κ0 A E 1 e.1 F L N e.2 t w) ∨
  (∃ (v : (Nat → Int32) × Int32) (E N w pl tk : Int32) (L : Nat → Int32), κ1 tk v.1 v.2 0 pl 0 E L N w ∧ ((tk = 0 ∧ ((v.1 12 = 0 ∨ v.1 11 = 0) ∧ ρ = .inl (6, v.2) ∨ (v.1 15 ≠ 0 ∧ v.1 12 ≠ 0 ∧ v.1 11 ≠ 0) ∧ ρ = .inr v)) ∨ (tk ≠ 0 ∧ ρ = .inl (1, v.2))))
theorem qm_text {T : Nat → Int32} {n : Int32} {κ0 : Int32 → Int32 → Int32 → Int32 → (Nat → Int32) → (Nat → Int32) → Int32 → Int32 → Int32 → Int32 → Prop} {κ1 : Int32 → (Nat → Int32) → Int32 → Int32 → Int32 → Int32 → Int32 → (Nat → Int32) → Int32 → Int32 → Prop} (hn : IV n 0 900) : ∀ (k : Nat) (F : Nat → Int32) (a : Int32) (ρ : Rs ((Nat → Int32) × Int32)), TxR T n k F a ρ → ∀ (f : Nat) (F2 L2 : Nat → Int32) (pl fd at_ en tk wh ns ft : Int32), MF T n F (lineS F T n a) at_ en fd ft F2 L2 ns pl tk wh → R_m_houseX_L1 n T κ0 κ1 f F2 L2 pl fd at_ en tk wh ns ft → MT ρ κ0 κ1 := by
  intro k
  induction k with
  | zero => intro F a ρ h; exact h.elim
  | succ k ih =>
    intro F a ρ h f F2 L2 pl fd at_ en tk wh ns ft hm hl
    rw [TxR] at h
    obtain ⟨hF, h⟩ := h
    cases f with
    | zero => exact hl.elim
    | succ f =>
      unfold R_m_houseX_L1 at hl
      rcases h with ⟨e, h1, h⟩ | ⟨v, h1, h⟩
      · rw [h1] at hm
        obtain ⟨m1, m2, m3⟩ := hm
        rcases hl with ⟨-, hl⟩ | ⟨q, -⟩
        · subst m1 m2 m3
          exact Or.inl ⟨e, _, _, _, _, _, _, _, h, hl⟩
        · rw [m1] at q; exact absurd q one0
      · rw [h1] at hm
        obtain ⟨m0, m1, m2, m3, m4, m5⟩ := hm
        rcases hl with ⟨q, -⟩ | ⟨-, hl⟩
        · exact absurd m1 q
        subst m0 m1 m2 m3
        have ek : tk = tmF (tkF T n v.2) := m5.2.1
        rcases hl with ⟨q59, hl⟩ | ⟨q59, hl⟩
        · have n3 : tkF T n v.2 ≠ 3 := fun q => q59 (by rw [ek]; exact tm59.mpr q)
          refine Or.inr ⟨v, _, _, _, _, _, _, hl, ?_⟩
          rcases h with ⟨q, -⟩ | ⟨q, h⟩ | ⟨q, q0, h⟩
          · exact absurd q n3
          · exact Or.inl ⟨by rw [ek]; exact tm0.mpr q, h⟩
          · exact Or.inr ⟨fun w => q0 (tm0.mp (ek.symm.trans w)), h⟩
        · have y3 : tkF T n v.2 = 3 := tm59.mp (ek.symm.trans q59)
          have h' : TxR T n k v.1 (nx T n v.2) ρ := by
            rcases h with ⟨-, h⟩ | ⟨q, -⟩ | ⟨q, -⟩
            · exact h
            · exact absurd (y3.symm.trans q) (by decide)
            · exact absurd y3 q
          clear h
          refine exE6 hl ?_
          clear hl
          intro A E M N t w hx hl
          refine exE10 hl ?_
          clear hl
          intro A2 E2 f2 u2 G2 M2 N2 p2 t2 w2 hr hl
          obtain ⟨x1, x2, x3⟩ := qm_next_at hn m4 m5 hx
          subst x1
          cases k with
          | zero => exact h'.elim
          | succ k =>
            have hF2 : FIv v.1 := by rw [TxR] at h'; exact h'.1
            have mr := qm_readLine hn hF2 ⟨rfl, rfl, rfl, x2, x3⟩ hr
            exact ih _ _ _ h' _ _ _ _ _ _ _ _ _ _ _ mr hl
theorem qm_zero {κ : (Nat → Int32) → Prop} : ∀ (f : Nat) (F : Nat → Int32) (u : Int32) (m : Nat), u.toInt = m → m ≤ 311 → (∀ i : Nat, i < m → F i = 0) → R_m_houseX_L0 κ f F u → ∃ G : Nat → Int32, (∀ i : Nat, i < 311 → G i = 0) ∧ κ G := by
  intro f
  induction f with
  | zero => intro F u m _ _ _ h; exact h.elim
  | succ f ih =>
    intro F u m hu hm hF h
    unfold R_m_houseX_L0 at h
    have e : (311 : Int32).toInt = 311 := by decide
    rcases h with ⟨q, h⟩ | ⟨q, h⟩
    · rw [le_I, e] at q
      exact ⟨F, fun i hi => hF i (by omega), h⟩
    · rw [le_I, e] at q
      obtain ⟨G, hG, z, hz, h⟩ := h
      rw [ofI1] at hz
      have ez := inc1 (u := u) (z := z) (a := 0) (b := 900) ⟨by omega, by omega⟩ (by omega) (by omega) hz.symm
      have en : u.toNatClampNeg = m := by have := Int32.toNat_toInt u; omega
      refine ih G z (m + 1) (by omega) (by omega) ?_ h
      intro i hi
      rw [hG, en]
      by_cases w : i = m
      · rw [w, upd_at]
      · rw [upd_ne w]; exact hF i (by omega)

theorem add1y {u z : Int32} {m : Nat} (hu : u.toInt = m) (hm : m < 1000) (hz : u + Int32.ofInt 1 = z) : z.toInt = (m + 1 : Nat) := by
  have o : (Int32.ofInt 1).toInt = 1 := by decide
  rw [← hz, Int32.toInt_add, o, hu, Int.bmod_eq_of_le (by omega) (by omega)]
  omega
theorem addy {a b z : Int32} {x y : Nat} (ha : a.toInt = x) (hb : b.toInt = y) (hx : x + y < 10000) (hz : z = a + b) : z.toInt = (x + y : Nat) := by
  rw [hz, Int32.toInt_add, ha, hb, Int.bmod_eq_of_le (by omega) (by omega)]
  omega
theorem tny {z : Int32} {x : Nat} (h : z.toInt = x) : z.toNatClampNeg = x := by
  have := tn_i (z := z) (by omega)
  omega
theorem mul3y {a z : Int32} {x : Nat} (ha : a.toInt = x) (hx : x ≤ 1000) (hz : z = (3 : Int32) * a) : z.toInt = (3 * x : Nat) := by
  have e : (3 : Int32).toInt = 3 := by decide
  rw [hz, Int32.toInt_mul, e, ha, Int.bmod_eq_of_le (by omega) (by omega)]
  omega
def StF (F S : Nat → Int32) : Prop := (∀ k : Nat, (k : Int) < (F 6).toInt → S k = F (16 + 3 * k) ∧ S (8 + k) = F (16 + 3 * k + 1)) ∧ (∀ k : Nat, (k : Int) < (F 8).toInt → S (16 + k) = F (44 + 3 * k + 1)) ∧ (∀ k : Nat, (k : Int) < (F 10).toInt → S (28 + k) = F (96 + 3 * k + 1)) ∧ (∀ k : Nat, (k : Int) < (F 12).toInt → S (34 + k) = F 2) ∧ S 42 = 0 ∧ S 43 = 0
theorem fill2 {κ : (Nat → Int32) → Prop} : ∀ (f : Nat) (S : Nat → Int32) (u : Int32) (m : Nat), u.toInt = m → m ≤ 44 → (∀ i : Nat, i < m → S i = 0) → R_m_houseX_L2 κ f S u → ∃ G : Nat → Int32, κ G ∧ (∀ i : Nat, i < 44 → G i = 0) := by
  intro f
  induction f with
  | zero => intro S u m _ _ _ h; exact h.elim
  | succ f ih =>
    intro S u m hu hm hI h
    have e : (44 : Int32).toInt = 44 := by decide
    unfold R_m_houseX_L2 at h
    rcases h with ⟨q, h⟩ | ⟨q, z, hz, h⟩
    · rw [le_I, e] at q
      exact ⟨S, h, fun i hi => hI i (by omega)⟩
    · rw [le_I, e] at q
      rw [tny hu] at h
      refine ih _ z (m + 1) (add1y hu (by omega) hz) (by omega) (fun i hi => ?_) h
      by_cases w : i = m
      · rw [w, upd_at]
      · rw [upd_ne w]; exact hI i (by omega)
theorem fill3 {R S0 : Nat → Int32} {κ : (Nat → Int32) → Prop} {N : Nat} (hn : (R 6).toInt = N) (hN : N ≤ 8) : ∀ (f : Nat) (S : Nat → Int32) (u : Int32) (m : Nat), u.toInt = m → m ≤ N → (∀ k : Nat, k < m → S k = R (16 + 3 * k) ∧ S (8 + k) = R (16 + 3 * k + 1)) → (∀ i : Nat, 16 ≤ i → S i = S0 i) → R_m_houseX_L3 R κ f S u → ∃ G : Nat → Int32, κ G ∧ (∀ k : Nat, k < N → G k = R (16 + 3 * k) ∧ G (8 + k) = R (16 + 3 * k + 1)) ∧ (∀ i : Nat, 16 ≤ i → G i = S0 i) := by
  intro f
  induction f with
  | zero => intro S u m _ _ _ _ h; exact h.elim
  | succ f ih =>
    intro S u m hu hm hI hO h
    have e6 : (6 : Int32).toNatClampNeg = 6 := by decide
    unfold R_m_houseX_L3 at h
    obtain ⟨z0, h0, h⟩ := h
    rw [e6] at h0
    subst h0
    rcases h with ⟨q, h⟩ | ⟨q, z1, h1, z2, h2, z3, h3, z4, h4, z5, h5, z6, h6, z7, h7, z, hz, h⟩
    · rw [le_I] at q
      obtain rfl : m = N := by omega
      exact ⟨S, h, hI, hO⟩
    · rw [le_I] at q
      have t1 := tny (addy (x := 0) (by decide) hu (by omega) h1)
      have t2 := mul3y hu (by omega) h2
      have t3 := addy (show (16 : Int32).toInt = (16 : Nat) by decide) t2 (by omega) h3
      have t5 := tny (addy (show (8 : Int32).toInt = (8 : Nat) by decide) hu (by omega) h5)
      have t6 := tny (addy t3 (show (1 : Int32).toInt = (1 : Nat) by decide) (by omega) h6)
      rw [tny t3] at h4
      rw [t6] at h7
      rw [t1, t5, show 0 + m = m by omega] at h
      refine ih _ z (m + 1) (add1y hu (by omega) hz) (by omega) (fun k hk => ?_) (fun i hi => ?_) h
      · by_cases w : k = m
        · subst w
          rw [upd_ne (by omega), upd_at, upd_at, h4, h7]
          exact ⟨rfl, rfl⟩
        · rw [upd_ne (by omega), upd_ne (by omega), upd_ne (by omega), upd_ne (by omega)]; exact hI k (by omega)
      · rw [upd_ne (by omega), upd_ne (by omega)]; exact hO i hi
theorem fill4 {R S0 : Nat → Int32} {κ : (Nat → Int32) → Prop} {N : Nat} (hn : (R 8).toInt = N) (hN : N ≤ 12) : ∀ (f : Nat) (S : Nat → Int32) (u : Int32) (m : Nat), u.toInt = m → m ≤ N → (∀ k : Nat, k < m → S (16 + k) = R (44 + 3 * k + 1)) → (∀ i : Nat, (i < 16 ∨ 28 ≤ i) → S i = S0 i) → R_m_houseX_L4 R κ f S u → ∃ G : Nat → Int32, κ G ∧ (∀ k : Nat, k < N → G (16 + k) = R (44 + 3 * k + 1)) ∧ (∀ i : Nat, (i < 16 ∨ 28 ≤ i) → G i = S0 i) := by
  intro f
  induction f with
  | zero => intro S u m _ _ _ _ h; exact h.elim
  | succ f ih =>
    intro S u m hu hm hI hO h
    have e6 : (8 : Int32).toNatClampNeg = 8 := by decide
    unfold R_m_houseX_L4 at h
    obtain ⟨z0, h0, h⟩ := h
    rw [e6] at h0
    subst h0
    rcases h with ⟨q, h⟩ | ⟨q, z1, h1, z2, h2, z3, h3, z4, h4, z5, h5, z, hz, h⟩
    · rw [le_I] at q
      obtain rfl : m = N := by omega
      exact ⟨S, h, hI, hO⟩
    · rw [le_I] at q
      have t1 := tny (addy (show (16 : Int32).toInt = (16 : Nat) by decide) hu (by omega) h1)
      have t2 := mul3y hu (by omega) h2
      have t3 := addy (show (44 : Int32).toInt = (44 : Nat) by decide) t2 (by omega) h3
      have t4 := tny (addy t3 (show (1 : Int32).toInt = (1 : Nat) by decide) (by omega) h4)
      rw [t4] at h5
      rw [t1] at h
      refine ih _ z (m + 1) (add1y hu (by omega) hz) (by omega) (fun k hk => ?_) (fun i hi => ?_) h
      · by_cases w : k = m
        · subst w
          rw [upd_at, h5]
        · rw [upd_ne (by omega)]; exact hI k (by omega)
      · rw [upd_ne (by omega)]; exact hO i hi
theorem fill5 {R S0 : Nat → Int32} {κ : (Nat → Int32) → Prop} {N : Nat} (hn : (R 10).toInt = N) (hN : N ≤ 6) : ∀ (f : Nat) (S : Nat → Int32) (u : Int32) (m : Nat), u.toInt = m → m ≤ N → (∀ k : Nat, k < m → S (28 + k) = R (96 + 3 * k + 1)) → (∀ i : Nat, (i < 28 ∨ 34 ≤ i) → S i = S0 i) → R_m_houseX_L5 R κ f S u → ∃ G : Nat → Int32, κ G ∧ (∀ k : Nat, k < N → G (28 + k) = R (96 + 3 * k + 1)) ∧ (∀ i : Nat, (i < 28 ∨ 34 ≤ i) → G i = S0 i) := by
  intro f
  induction f with
  | zero => intro S u m _ _ _ _ h; exact h.elim
  | succ f ih =>
    intro S u m hu hm hI hO h
    have e6 : (10 : Int32).toNatClampNeg = 10 := by decide
    unfold R_m_houseX_L5 at h
    obtain ⟨z0, h0, h⟩ := h
    rw [e6] at h0
    subst h0
    rcases h with ⟨q, h⟩ | ⟨q, z1, h1, z2, h2, z3, h3, z4, h4, z5, h5, z, hz, h⟩
    · rw [le_I] at q
      obtain rfl : m = N := by omega
      exact ⟨S, h, hI, hO⟩
    · rw [le_I] at q
      have t1 := tny (addy (show (28 : Int32).toInt = (28 : Nat) by decide) hu (by omega) h1)
      have t2 := mul3y hu (by omega) h2
      have t3 := addy (show (96 : Int32).toInt = (96 : Nat) by decide) t2 (by omega) h3
      have t4 := tny (addy t3 (show (1 : Int32).toInt = (1 : Nat) by decide) (by omega) h4)
      rw [t4] at h5
      rw [t1] at h
      refine ih _ z (m + 1) (add1y hu (by omega) hz) (by omega) (fun k hk => ?_) (fun i hi => ?_) h
      · by_cases w : k = m
        · subst w
          rw [upd_at, h5]
        · rw [upd_ne (by omega)]; exact hI k (by omega)
      · rw [upd_ne (by omega)]; exact hO i hi
theorem fill6 {R S0 : Nat → Int32} {κ : (Nat → Int32) → Int32 → Prop} {N : Nat} (hn : (R 12).toInt = N) (hN : N ≤ 8) : ∀ (f : Nat) (S : Nat → Int32) (u : Int32) (m : Nat), u.toInt = m → m ≤ N → (∀ k : Nat, k < m → S (34 + k) = R 2) → (∀ i : Nat, (i < 34 ∨ 42 ≤ i) → S i = S0 i) → R_m_houseX_L6 R κ f S u → ∃ G : Nat → Int32, κ G (R 12) ∧ (∀ k : Nat, k < N → G (34 + k) = R 2) ∧ (∀ i : Nat, (i < 34 ∨ 42 ≤ i) → G i = S0 i) := by
  intro f
  induction f with
  | zero => intro S u m _ _ _ _ h; exact h.elim
  | succ f ih =>
    intro S u m hu hm hI hO h
    have e6 : (12 : Int32).toNatClampNeg = 12 := by decide
    have e2 : (2 : Int32).toNatClampNeg = 2 := by decide
    unfold R_m_houseX_L6 at h
    obtain ⟨z0, h0, h⟩ := h
    rw [e6] at h0
    subst h0
    rcases h with ⟨q, h⟩ | ⟨q, z1, h1, z2, h2, z, hz, h⟩
    · rw [le_I] at q
      obtain rfl : m = N := by omega
      exact ⟨S, h, hI, hO⟩
    · rw [le_I] at q
      have t1 := tny (addy (show (34 : Int32).toInt = (34 : Nat) by decide) hu (by omega) h1)
      rw [e2] at h2
      rw [t1] at h
      refine ih _ z (m + 1) (add1y hu (by omega) hz) (by omega) (fun k hk => ?_) (fun i hi => ?_) h
      · by_cases w : k = m
        · subst w
          rw [upd_at, h2]
        · rw [upd_ne (by omega)]; exact hI k (by omega)
      · rw [upd_ne (by omega)]; exact hO i hi

theorem qm_skip2 {κ : (Nat → Int32) → Prop} : ∀ (f : Nat) (F : Nat → Int32) (u : Int32), R_m_houseX_L2 κ f F u → ∃ G : Nat → Int32, κ G := by
  intro f
  induction f with
  | zero => intro F u h; exact h.elim
  | succ f ih =>
    intro F u h
    unfold R_m_houseX_L2 at h
    rcases h with ⟨-, h⟩ | ⟨-, z, -, h⟩
    · exact ⟨F, h⟩
    · exact ih _ _ h
theorem qm_skip3 {R : Nat → Int32} {κ : (Nat → Int32) → Prop} : ∀ (f : Nat) (F : Nat → Int32) (u : Int32), R_m_houseX_L3 R κ f F u → ∃ G : Nat → Int32, κ G := by
  intro f
  induction f with
  | zero => intro F u h; exact h.elim
  | succ f ih =>
    intro F u h
    unfold R_m_houseX_L3 at h
    obtain ⟨z0, -, h⟩ := h
    rcases h with ⟨-, h⟩ | ⟨-, z1, -, z2, -, z3, -, z4, -, z5, -, z6, -, z7, -, z, -, h⟩
    · exact ⟨F, h⟩
    · exact ih _ _ h
theorem qm_skip4 {R : Nat → Int32} {κ : (Nat → Int32) → Prop} : ∀ (f : Nat) (F : Nat → Int32) (u : Int32), R_m_houseX_L4 R κ f F u → ∃ G : Nat → Int32, κ G := by
  intro f
  induction f with
  | zero => intro F u h; exact h.elim
  | succ f ih =>
    intro F u h
    unfold R_m_houseX_L4 at h
    obtain ⟨z0, -, h⟩ := h
    rcases h with ⟨-, h⟩ | ⟨-, z1, -, z2, -, z3, -, z4, -, z5, -, z, -, h⟩
    · exact ⟨F, h⟩
    · exact ih _ _ h
theorem qm_skip5 {R : Nat → Int32} {κ : (Nat → Int32) → Prop} : ∀ (f : Nat) (F : Nat → Int32) (u : Int32), R_m_houseX_L5 R κ f F u → ∃ G : Nat → Int32, κ G := by
  intro f
  induction f with
  | zero => intro F u h; exact h.elim
  | succ f ih =>
    intro F u h
    unfold R_m_houseX_L5 at h
    obtain ⟨z0, -, h⟩ := h
    rcases h with ⟨-, h⟩ | ⟨-, z1, -, z2, -, z3, -, z4, -, z5, -, z, -, h⟩
    · exact ⟨F, h⟩
    · exact ih _ _ h
theorem qm_skip6 {R : Nat → Int32} {κ : (Nat → Int32) → Int32 → Prop} : ∀ (f : Nat) (F : Nat → Int32) (u : Int32), R_m_houseX_L6 R κ f F u → ∃ G : Nat → Int32, κ G (R 12) := by
  intro f
  induction f with
  | zero => intro F u h; exact h.elim
  | succ f ih =>
    intro F u h
    unfold R_m_houseX_L6 at h
    obtain ⟨z0, e0, h⟩ := h
    rcases h with ⟨-, h⟩ | ⟨-, z1, -, z2, -, z, -, h⟩
    · subst e0; exact ⟨F, h⟩
    · exact ih _ _ h
theorem qm_copy0 {R G3 : Nat → Int32} : ∀ (f : Nat) (F : Nat → Int32) (u : Int32) (m : Nat), u.toInt = m → m ≤ 311 → (∀ i : Nat, i < m → F i = R i) → R_m_copyRX_L0 R (fun (uf_1 : Nat → Int32) => G3 = uf_1) f F u → ∀ i : Nat, i < 311 → G3 i = R i := by
  intro f
  induction f with
  | zero => intro F u m _ _ _ h; exact h.elim
  | succ f ih =>
    intro F u m hu hm hF h
    unfold R_m_copyRX_L0 at h
    have e : (311 : Int32).toInt = 311 := by decide
    rcases h with ⟨q, h⟩ | ⟨q, h⟩
    · rw [le_I, e] at q
      intro i hi
      rw [h]; exact hF i (by omega)
    · rw [le_I, e] at q
      obtain ⟨z1, h1, z2, h2, z, hz, h⟩ := h
      rw [ofI1] at hz
      have ez := inc1 (u := u) (z := z) (a := 0) (b := 900) ⟨by omega, by omega⟩ (by omega) (by omega) hz.symm
      have e1 : z1 = u := by rw [h1]; exact Int32.toInt_inj.mp (by rw [addI (by rw [zI]; omega) (by rw [zI]; omega), zI]; omega)
      have en : u.toNatClampNeg = m := by have := Int32.toNat_toInt u; omega
      refine ih _ z (m + 1) (by omega) (by omega) ?_ h
      intro i hi
      rw [h2, e1, en]
      by_cases w : i = m
      · rw [w, upd_at]
      · rw [upd_ne w]; exact hF i (by omega)
theorem qm_copy {R D G3 : Nat → Int32} (h : R_m_copyRX R D G3) : ∀ i : Nat, i < 311 → G3 i = R i := by
  unfold R_m_copyRX at h
  obtain ⟨f, h⟩ := h
  exact qm_copy0 f D 0 0 (by decide) (by omega) (fun i hi => by omega) h
theorem qm_house {n m_taped m_size m_at m_end m_token m_whole m_nameSize m_fault m_place m_failed m_hasHouse m_undos m_images m_at2 m_end2 m_failed2 m_fault2 m_hasHouse2 m_images2 m_nameSize2 m_place2 m_size2 m_taped2 m_thrown2 m_token2 m_trouble2 m_undos2 m_whole2 r : Int32} {T d_letters d_r d_fresh d_st d_fresh2 d_letters2 d_r2 d_st2 : Nat → Int32} (hn : IV m_taped 0 900) (h : R_m_houseX n m_taped m_size m_at m_end m_token m_whole m_nameSize m_fault m_place m_failed m_hasHouse m_undos m_images T d_letters d_r d_fresh d_st m_at2 m_end2 m_failed2 m_fault2 d_fresh2 m_hasHouse2 m_images2 d_letters2 m_nameSize2 m_place2 d_r2 m_size2 d_st2 m_taped2 m_thrown2 m_token2 m_trouble2 m_undos2 m_whole2 r) : (¬ (0 ≤ n.toInt ∧ n.toInt ≤ m_taped.toInt) ∧ m_thrown2 = 0 ∧ m_fault2 = m_fault ∧ m_place2 = m_place ∧ m_taped2 = m_taped ∧ m_size2 = m_size ∧ m_trouble2 = 2 ∧ r = -1 ∧ m_hasHouse2 = m_hasHouse ∧ d_r2 = d_r ∧ d_st2 = d_st ∧ m_undos2 = m_undos ∧ m_images2 = m_images) ∨ ((0 ≤ n.toInt ∧ n.toInt ≤ m_taped.toInt) ∧ ∃ F0 : Nat → Int32, (∀ i : Nat, i < 311 → F0 i = 0) ∧ ∀ (k : Nat) (ρ : Rs ((Nat → Int32) × Int32)), TxR T n k F0 (rn T n 5 0) ρ → m_thrown2 = 0 ∧ m_taped2 = 0 ∧ m_size2 = n ∧ ((∃ e : Int32 × Int32, ρ = .inl e ∧ m_fault2 = e.1 ∧ m_place2 = e.2 ∧ m_trouble2 = 4 ∧ r = -1 ∧ m_hasHouse2 = m_hasHouse ∧ d_r2 = d_r ∧ d_st2 = d_st ∧ m_undos2 = m_undos ∧ m_images2 = m_images) ∨ (∃ v : (Nat → Int32) × Int32, ρ = .inr v ∧ m_fault2 = 0 ∧ m_trouble2 = 0 ∧ r = v.1 12 ∧ m_hasHouse2 = 1 ∧ (∀ i : Nat, i < 311 → d_r2 i = v.1 i) ∧ m_undos2 = 0 ∧ m_images2 = 0 ∧ (FIv v.1 → IV (v.1 12) 0 8 → StF v.1 d_st2)))) := by
  unfold R_m_houseX at h
  obtain ⟨th, tr, ⟨g1, g2⟩, r5, h5, h⟩ := h
  have hin : (r5 = 1 ∧ 0 ≤ n.toInt ∧ n.toInt ≤ m_taped.toInt) ∨ (r5 = 0 ∧ ¬ (0 ≤ n.toInt ∧ n.toInt ≤ m_taped.toInt)) := by
    simp only [R_m_inX] at h5
    rcases h5 with ⟨q, h5⟩ | ⟨q, ⟨q2, h5⟩ | ⟨q2, h5⟩⟩
    · rw [lt_I, zI] at q; exact Or.inr ⟨h5, by omega⟩
    · rw [lt_I] at q2; exact Or.inr ⟨h5, by omega⟩
    · rw [lt_I, zI] at q; rw [lt_I] at q2; exact Or.inl ⟨h5, by omega, by omega⟩
  rcases hin with ⟨q5, hi⟩ | ⟨q5, hi⟩
  case inr =>
    replace h := pf2 h q5
    obtain ⟨tr2, r2, ⟨n1, n2⟩, k_m_at2, k_m_end2, k_m_failed2, k_m_fault2, k_d_fresh2, k_m_hasHouse2, k_m_images2, k_d_letters2, k_m_nameSize2, k_m_place2, k_d_r2, k_m_size2, k_d_st2, k_m_taped2, k_m_thrown2, k_m_token2, k_m_trouble2, k_m_undos2, k_m_whole2, k_r⟩ := h
    exact Or.inl ⟨hi, by rw [k_m_thrown2, g1], k_m_fault2, k_m_place2, k_m_taped2, k_m_size2, by rw [k_m_trouble2, n1], by rw [k_r, n2], k_m_hasHouse2, k_d_r2, k_d_st2, k_m_undos2, k_m_images2⟩
  replace h := pk2 h q5
  obtain ⟨f0, h⟩ := h
  obtain ⟨F0, hF0, h⟩ := qm_zero f0 d_fresh 0 0 (by decide) (by omega) (fun i hi => by omega) h
  obtain ⟨A, E, M, N, t, w, hx, A2, E2, f2, u2, G2, M2, N2, p2, t2, w2, hr, f1, h⟩ := h
  have hn' : IV n 0 900 := ⟨hi.1, by have := hn.2; omega⟩
  obtain ⟨t1, tk⟩ := m_next_spec hn' ⟨by decide, by decide⟩ hx
  have i0 : IV (rn T n 5 0) 0 900 := ⟨by have := rn_ge (T := T) (k := 5) (u := 0) hn' (by decide) ⟨by decide, by decide⟩; rw [zI] at this; omega, (rn_ge (T := T) (k := 5) (u := 0) hn' (by decide) ⟨by decide, by decide⟩).2⟩
  have I : ∀ (i : Nat) (b : Int), i < 311 → 0 ≤ b → IV (F0 i) 0 b := fun i b h hb => by rw [hF0 i h, IV, zI]; omega
  have hFI : FIv F0 := ⟨I 6 8 (by first | decide | omega) (by first | decide | omega), I 7 4 (by first | decide | omega) (by first | decide | omega), I 8 12 (by first | decide | omega) (by first | decide | omega), I 9 8 (by first | decide | omega) (by first | decide | omega), I 10 6 (by first | decide | omega) (by first | decide | omega), I 11 4 (by first | decide | omega) (by first | decide | omega), I 13 6 (by first | decide | omega) (by first | decide | omega), I 14 6 (by first | decide | omega) (by first | decide | omega)⟩
  have ml := qm_readLine hn' hFI (a := rn T n 5 0) ⟨rfl, rfl, rfl, i0, tk⟩ (by rw [← t1]; exact hr)
  have hlast : ∀ (k : Nat) (ρ : Rs ((Nat → Int32) × Int32)), TxR T n k F0 (rn T n 5 0) ρ → m_thrown2 = 0 ∧ m_taped2 = 0 ∧ m_size2 = n ∧ ((∃ e : Int32 × Int32, ρ = .inl e ∧ m_fault2 = e.1 ∧ m_place2 = e.2 ∧ m_trouble2 = 4 ∧ r = -1 ∧ m_hasHouse2 = m_hasHouse ∧ d_r2 = d_r ∧ d_st2 = d_st ∧ m_undos2 = m_undos ∧ m_images2 = m_images) ∨ (∃ v : (Nat → Int32) × Int32, ρ = .inr v ∧ m_fault2 = 0 ∧ m_trouble2 = 0 ∧ r = v.1 12 ∧ m_hasHouse2 = 1 ∧ (∀ i : Nat, i < 311 → d_r2 i = v.1 i) ∧ m_undos2 = 0 ∧ m_images2 = 0 ∧ (FIv v.1 → IV (v.1 12) 0 8 → StF v.1 d_st2))) := by
    intro k ρ hT
    have K := qm_text hn' k F0 _ ρ hT _ _ _ _ _ _ _ _ _ _ _ ml h
    rcases K with ⟨e, A', E', N', t', w', F', L', hρ, K⟩ | ⟨v, E', N', w', pl', tk', L', K, hρ⟩
    · obtain ⟨tr2, r2, ⟨n1, n2⟩, k_m_at2, k_m_end2, k_m_failed2, k_m_fault2, k_d_fresh2, k_m_hasHouse2, k_m_images2, k_d_letters2, k_m_nameSize2, k_m_place2, k_d_r2, k_m_size2, k_d_st2, k_m_taped2, k_m_thrown2, k_m_token2, k_m_trouble2, k_m_undos2, k_m_whole2, k_r⟩ := K
      exact ⟨by rw [k_m_thrown2, g1], k_m_taped2, k_m_size2, Or.inl ⟨e, hρ, k_m_fault2, k_m_place2, by rw [k_m_trouble2, n1], by rw [k_r, n2], k_m_hasHouse2, k_d_r2, k_d_st2, k_m_undos2, k_m_images2⟩⟩
    · rcases K with ⟨q0, z15, h15, K⟩ | ⟨q0, K⟩
      case inr =>
        have hρ' : ρ = .inl (1, v.2) := by
          rcases hρ with ⟨q, -⟩ | ⟨-, q⟩
          · exact absurd q q0
          · exact q
        obtain ⟨fd2, ft2, pl2, hb, tr2, r2, ⟨n1, n2⟩, k_m_at2, k_m_end2, k_m_failed2, k_m_fault2, k_d_fresh2, k_m_hasHouse2, k_m_images2, k_d_letters2, k_m_nameSize2, k_m_place2, k_d_r2, k_m_size2, k_d_st2, k_m_taped2, k_m_thrown2, k_m_token2, k_m_trouble2, k_m_undos2, k_m_whole2, k_r⟩ := K
        obtain ⟨b1, b2, b3⟩ := qm_bad rfl hb
        exact ⟨by rw [k_m_thrown2, g1], k_m_taped2, k_m_size2, Or.inl ⟨(1, v.2), hρ', by rw [k_m_fault2, b2], by rw [k_m_place2, b3], by rw [k_m_trouble2, n1], by rw [k_r, n2], k_m_hasHouse2, k_d_r2, k_d_st2, k_m_undos2, k_m_images2⟩⟩
      have hρ' : ((v.1 12 = 0 ∨ v.1 11 = 0) ∧ ρ = .inl (6, v.2)) ∨ ((v.1 15 ≠ 0 ∧ v.1 12 ≠ 0 ∧ v.1 11 ≠ 0) ∧ ρ = .inr v) := by
        rcases hρ with ⟨-, q⟩ | ⟨q, -⟩
        · exact q
        · exact absurd q0 q
      have S : ∀ (ft2 pl2 : Int32), ft2 = 6 → pl2 = v.2 → m_fault2 = ft2 → m_place2 = pl2 → ρ = .inl (6, v.2) → m_trouble2 = 4 → r = -1 → m_hasHouse2 = m_hasHouse ∧ d_r2 = d_r ∧ d_st2 = d_st ∧ m_undos2 = m_undos ∧ m_images2 = m_images → ((∃ e : Int32 × Int32, ρ = .inl e ∧ m_fault2 = e.1 ∧ m_place2 = e.2 ∧ m_trouble2 = 4 ∧ r = -1 ∧ m_hasHouse2 = m_hasHouse ∧ d_r2 = d_r ∧ d_st2 = d_st ∧ m_undos2 = m_undos ∧ m_images2 = m_images) ∨ (∃ v : (Nat → Int32) × Int32, ρ = .inr v ∧ m_fault2 = 0 ∧ m_trouble2 = 0 ∧ r = v.1 12 ∧ m_hasHouse2 = 1 ∧ (∀ i : Nat, i < 311 → d_r2 i = v.1 i) ∧ m_undos2 = 0 ∧ m_images2 = 0 ∧ (FIv v.1 → IV (v.1 12) 0 8 → StF v.1 d_st2))) := fun ft2 pl2 a1 a2 a3 a4 a5 a6 a7 a8 => Or.inl ⟨(6, v.2), a5, by rw [a3, a1], by rw [a4, a2], a6, a7, a8⟩
      rcases K with ⟨q15, fd2, ft2, pl2, hb, tr2, r2, ⟨n1, n2⟩, k_m_at2, k_m_end2, k_m_failed2, k_m_fault2, k_d_fresh2, k_m_hasHouse2, k_m_images2, k_d_letters2, k_m_nameSize2, k_m_place2, k_d_r2, k_m_size2, k_d_st2, k_m_taped2, k_m_thrown2, k_m_token2, k_m_trouble2, k_m_undos2, k_m_whole2, k_r⟩ | ⟨q15, z12, h12, K⟩
      · obtain ⟨b1, b2, b3⟩ := qm_bad rfl hb
        have hh : ρ = .inl (6, v.2) := by
          rcases hρ' with ⟨-, q⟩ | ⟨q, -⟩
          · exact q
          · exact absurd (h15.symm.trans q15) q.1
        exact ⟨by rw [k_m_thrown2, g1], k_m_taped2, k_m_size2, S _ _ b2 b3 k_m_fault2 k_m_place2 hh (by rw [k_m_trouble2, n1]) (by rw [k_r, n2]) ⟨k_m_hasHouse2, k_d_r2, k_d_st2, k_m_undos2, k_m_images2⟩⟩
      rcases K with ⟨q12, fd2, ft2, pl2, hb, tr2, r2, ⟨n1, n2⟩, k_m_at2, k_m_end2, k_m_failed2, k_m_fault2, k_d_fresh2, k_m_hasHouse2, k_m_images2, k_d_letters2, k_m_nameSize2, k_m_place2, k_d_r2, k_m_size2, k_d_st2, k_m_taped2, k_m_thrown2, k_m_token2, k_m_trouble2, k_m_undos2, k_m_whole2, k_r⟩ | ⟨q12, z11, h11, K⟩
      · obtain ⟨b1, b2, b3⟩ := qm_bad rfl hb
        have hh : ρ = .inl (6, v.2) := by
          rcases hρ' with ⟨-, q⟩ | ⟨q, -⟩
          · exact q
          · exact absurd (h12.symm.trans q12) q.2.1
        exact ⟨by rw [k_m_thrown2, g1], k_m_taped2, k_m_size2, S _ _ b2 b3 k_m_fault2 k_m_place2 hh (by rw [k_m_trouble2, n1]) (by rw [k_r, n2]) ⟨k_m_hasHouse2, k_d_r2, k_d_st2, k_m_undos2, k_m_images2⟩⟩
      rcases K with ⟨q11, R3, hcp, f2', K⟩ | ⟨q11, fd2, ft2, pl2, hb, tr2, r2, ⟨n1, n2⟩, k_m_at2, k_m_end2, k_m_failed2, k_m_fault2, k_d_fresh2, k_m_hasHouse2, k_m_images2, k_d_letters2, k_m_nameSize2, k_m_place2, k_d_r2, k_m_size2, k_d_st2, k_m_taped2, k_m_thrown2, k_m_token2, k_m_trouble2, k_m_undos2, k_m_whole2, k_r⟩
      case inr =>
        obtain ⟨b1, b2, b3⟩ := qm_bad rfl hb
        have hh : ρ = .inl (6, v.2) := by
          rcases hρ' with ⟨-, q⟩ | ⟨q, -⟩
          · exact q
          · exact absurd (h11.symm.trans q11) q.2.2
        exact ⟨by rw [k_m_thrown2, g1], k_m_taped2, k_m_size2, S _ _ b2 b3 k_m_fault2 k_m_place2 hh (by rw [k_m_trouble2, n1]) (by rw [k_r, n2]) ⟨k_m_hasHouse2, k_d_r2, k_d_st2, k_m_undos2, k_m_images2⟩⟩
      have hh : ρ = .inr v := by
        rcases hρ' with ⟨q, -⟩ | ⟨-, q⟩
        · rcases q with q | q
          · exact absurd (h12.trans q) q12
          · exact absurd (h11.trans q) q11
        · exact q
      have cp := qm_copy hcp
      by_cases hB : FIv v.1 ∧ IV (v.1 12) 0 8
      case neg =>
        obtain ⟨S2, f3', K⟩ := qm_skip2 _ _ _ K
        obtain ⟨S3, f4', K⟩ := qm_skip3 _ _ _ K
        obtain ⟨S4, f5', K⟩ := qm_skip4 _ _ _ K
        obtain ⟨S5, f6', K⟩ := qm_skip5 _ _ _ K
        obtain ⟨S6, K⟩ := qm_skip6 _ _ _ K
        obtain ⟨k_m_at2, k_m_end2, k_m_failed2, k_m_fault2, k_d_fresh2, k_m_hasHouse2, k_m_images2, k_d_letters2, k_m_nameSize2, k_m_place2, k_d_r2, k_m_size2, k_d_st2, k_m_taped2, k_m_thrown2, k_m_token2, k_m_trouble2, k_m_undos2, k_m_whole2, k_r⟩ := K
        exact ⟨by rw [k_m_thrown2, g1], k_m_taped2, k_m_size2, Or.inr ⟨v, hh, k_m_fault2, by rw [k_m_trouble2, g2], by rw [k_r]; exact cp 12 (by first | decide | omega), k_m_hasHouse2, by rw [k_d_r2]; exact cp, k_m_undos2, k_m_images2, fun b1 b2 => absurd ⟨b1, b2⟩ hB⟩⟩
      obtain ⟨⟨i6, i7, i8, i9, i10, i11, i13, i14⟩, i12⟩ := hB
      rw [IV] at i6 i8 i10 i12
      obtain ⟨N6, hN6⟩ : ∃ a : Nat, (R3 6).toInt = a := ⟨(R3 6).toInt.toNat, by rw [cp 6 (by first | decide | omega)]; omega⟩
      obtain ⟨N8, hN8⟩ : ∃ a : Nat, (R3 8).toInt = a := ⟨(R3 8).toInt.toNat, by rw [cp 8 (by first | decide | omega)]; omega⟩
      obtain ⟨N10, hN10⟩ : ∃ a : Nat, (R3 10).toInt = a := ⟨(R3 10).toInt.toNat, by rw [cp 10 (by first | decide | omega)]; omega⟩
      obtain ⟨N12, hN12⟩ : ∃ a : Nat, (R3 12).toInt = a := ⟨(R3 12).toInt.toNat, by rw [cp 12 (by first | decide | omega)]; omega⟩
      have b6 := hN6
      have b8 := hN8
      have b10 := hN10
      have b12 := hN12
      rw [cp 6 (by first | decide | omega)] at b6
      rw [cp 8 (by first | decide | omega)] at b8
      rw [cp 10 (by first | decide | omega)] at b10
      rw [cp 12 (by first | decide | omega)] at b12
      obtain ⟨S2, ⟨f3', K⟩, w2⟩ := fill2 _ _ 0 0 (by decide) (by omega) (fun i hi => by omega) K
      obtain ⟨S3, ⟨f4', K⟩, w3, v3⟩ := fill3 (S0 := S2) hN6 (by omega) _ _ 0 0 (by decide) (by omega) (fun k hk => by omega) (fun i _ => rfl) K
      obtain ⟨S4, ⟨f5', K⟩, w4, v4⟩ := fill4 (S0 := S3) hN8 (by omega) _ _ 0 0 (by decide) (by omega) (fun k hk => by omega) (fun i _ => rfl) K
      obtain ⟨S5, ⟨f6', K⟩, w5, v5⟩ := fill5 (S0 := S4) hN10 (by omega) _ _ 0 0 (by decide) (by omega) (fun k hk => by omega) (fun i _ => rfl) K
      obtain ⟨S6, K, w6, v6⟩ := fill6 (S0 := S5) hN12 (by omega) _ _ 0 0 (by decide) (by omega) (fun k hk => by omega) (fun i _ => rfl) K
      obtain ⟨k_m_at2, k_m_end2, k_m_failed2, k_m_fault2, k_d_fresh2, k_m_hasHouse2, k_m_images2, k_d_letters2, k_m_nameSize2, k_m_place2, k_d_r2, k_m_size2, k_d_st2, k_m_taped2, k_m_thrown2, k_m_token2, k_m_trouble2, k_m_undos2, k_m_whole2, k_r⟩ := K
      refine ⟨by rw [k_m_thrown2, g1], k_m_taped2, k_m_size2, Or.inr ⟨v, hh, k_m_fault2, by rw [k_m_trouble2, g2], by rw [k_r]; exact cp 12 (by first | decide | omega), k_m_hasHouse2, by rw [k_d_r2]; exact cp, k_m_undos2, k_m_images2, fun _ _ => ?_⟩⟩
      rw [k_d_st2]
      refine ⟨fun k hk => ?_, fun k hk => ?_, fun k hk => ?_, fun k hk => ?_, ?_, ?_⟩
      · rw [v6 _ (by omega), v6 _ (by omega), v5 _ (by omega), v5 _ (by omega), v4 _ (by omega), v4 _ (by omega)]
        obtain ⟨z1, z2⟩ := w3 k (by omega)
        exact ⟨z1.trans (cp _ (by omega)), z2.trans (cp _ (by omega))⟩
      · rw [v6 _ (by omega), v5 _ (by omega)]; exact (w4 k (by omega)).trans (cp _ (by omega))
      · rw [v6 _ (by omega)]; exact (w5 k (by omega)).trans (cp _ (by omega))
      · exact (w6 k (by omega)).trans (cp _ (by omega))
      · rw [v6 _ (by omega), v5 _ (by omega), v4 _ (by omega), v3 _ (by omega)]; exact w2 _ (by omega)
      · rw [v6 _ (by omega), v5 _ (by omega), v4 _ (by omega), v3 _ (by omega)]; exact w2 _ (by omega)
  exact Or.inr ⟨hi, F0, hF0, hlast⟩

set_option maxRecDepth 100000
set_option maxHeartbeats 4000000
def fpk (p0 p1 p2 p3 p4 u : Int32) : Int32 := if 4 ≤ u then (if 8 ≤ u then (if 12 ≤ u then (if 16 ≤ u then p4 else p3) else p2) else p1) else p0
def fby (p u : Int32) : Int32 := (p >>> (((24 : Int32) - (8 : Int32) * (u - u / (4 : Int32) * (4 : Int32))) &&& 31)) &&& (255 : Int32)
def fdT (p0 p1 p2 p3 p4 : Int32) : Nat → Int32 → Int32 → (Nat → Int32) → (Nat → Int32)
  | 0, _, _, F => F
  | m + 1, u, k, F => fdT p0 p1 p2 p3 p4 m (u + 1) (k + 1) (upd F k.toNatClampNeg (fby (fpk p0 p1 p2 p3 p4 u) u))
def fdK : Nat → Int32 → Int32
  | 0, k => k
  | m + 1, k => fdK m (k + 1)
theorem fd_step {p0 p1 p2 p3 p4 u k : Int32} {κ : (Nat → Int32) → Int32 → Prop} {n : Nat} {F : Nat → Int32} (h : R_m_feedX_L0 p0 p1 p2 p3 p4 κ n F u k) : (20 ≤ u ∧ κ F k) ∨ (¬ 20 ≤ u ∧ ∃ m, R_m_feedX_L0 p0 p1 p2 p3 p4 κ m (upd F k.toNatClampNeg (fby (fpk p0 p1 p2 p3 p4 u) u)) (u + 1) (k + 1)) := by
  cases n with
  | zero => exact h.elim
  | succ n =>
    unfold R_m_feedX_L0 at h
    rcases h with h | ⟨hu, h⟩
    · exact Or.inl h
    refine Or.inr ⟨hu, n, ?_⟩
    unfold fby fpk
    rcases h with ⟨q4, h⟩ | ⟨q4, h⟩
    · rw [if_pos q4]
      rcases h with ⟨q8, h⟩ | ⟨q8, h⟩
      · rw [if_pos q8]
        rcases h with ⟨q12, h⟩ | ⟨q12, h⟩
        · rw [if_pos q12]
          rcases h with ⟨q16, h⟩ | ⟨q16, h⟩
          · rw [if_pos q16]
            obtain ⟨_, rfl, _, rfl, _, rfl, _, rfl, _, rfl, _, rfl, _, rfl, h⟩ := h
            exact h
          · rw [if_neg q16]
            obtain ⟨_, rfl, _, rfl, _, rfl, _, rfl, _, rfl, _, rfl, _, rfl, h⟩ := h
            exact h
        · rw [if_neg q12]
          obtain ⟨_, rfl, _, rfl, _, rfl, _, rfl, _, rfl, _, rfl, _, rfl, h⟩ := h
          exact h
      · rw [if_neg q8]
        obtain ⟨_, rfl, _, rfl, _, rfl, _, rfl, _, rfl, _, rfl, _, rfl, h⟩ := h
        exact h
    · rw [if_neg q4]
      obtain ⟨_, rfl, _, rfl, _, rfl, _, rfl, _, rfl, _, rfl, _, rfl, h⟩ := h
      exact h
theorem fd_all {p0 p1 p2 p3 p4 : Int32} {κ : (Nat → Int32) → Int32 → Prop} : ∀ (m : Nat) (u k : Int32) (n : Nat) (F : Nat → Int32), 0 ≤ u.toInt → u.toInt + m = 20 → R_m_feedX_L0 p0 p1 p2 p3 p4 κ n F u k → κ (fdT p0 p1 p2 p3 p4 m u k F) (fdK m k) := by
  intro m
  induction m with
  | zero =>
    intro u k n F hu0 hu h
    rcases fd_step h with ⟨-, h⟩ | ⟨q, -⟩
    · exact h
    · refine absurd (Int32.le_iff_toInt_le.mpr ?_) q
      have e : (20 : Int32).toInt = 20 := by decide
      omega
  | succ m ih =>
    intro u k n F hu0 hu h
    have e : (20 : Int32).toInt = 20 := by decide
    rcases fd_step h with ⟨q, -⟩ | ⟨-, n2, h⟩
    · have := Int32.le_iff_toInt_le.mp q
      omega
    · have e1 : (u + 1).toInt = u.toInt + 1 := by
        have o : (1 : Int32).toInt = 1 := by decide
        rw [Int32.toInt_add, o, Int.bmod_eq_of_le (by omega) (by omega)]
      exact ih (u + 1) (k + 1) n2 _ (by omega) (by omega) h
theorem sx_and (x : Int32) : sx (x &&& 255) = x.toInt8.toInt32 := by
  have e : (255 : Int32).toInt8 = -1 := by decide
  unfold sx
  rw [Int32.toInt8_and, e, Int8.and_neg_one]
theorem nar_byte (x : Int32) : vp_nar .byte (x.toInt8.toInt32) = x.toInt8.toInt32 := by
  show (x.toInt8.toInt32).toInt8.toInt32 = x.toInt8.toInt32
  rw [Int8.toInt8_toInt32]
theorem iv_byte (x : Int32) : IV (x &&& 255) 0 255 := by
  exact iv_and (Int32.and_comm _ _) (show IV 255 255 255 from (by decide)) (by decide)
theorem TpR_upd {tp T : Nat → Int32} {i : Nat} {p s u : Int32} (h : TpR tp T) (hs : ((24 : Int32) - (8 : Int32) * (u - u / (4 : Int32) * (4 : Int32))) &&& 31 = s &&& 31) : TpR (upd tp i (vp_nar .byte ((p >>> (s &&& 31)).toInt8.toInt32))) (upd T i (fby p u)) := by
  intro j hj
  unfold upd fby
  rw [hs]
  by_cases q : j = i
  · rw [if_pos q, if_pos q, nar_byte, sx_and]
    exact ⟨iv_byte _, rfl⟩
  · rw [if_neg q, if_neg q]
    exact h j hj
theorem q_feed {p0 p1 p2 p3 p4 t t2 t3 th r r2 : Int32} {tp T tp2 T2 : Nat → Int32} (hx : R_c_feedX p0 p1 p2 p3 p4 t tp t2 tp2 r) (hm : R_m_feedX p0 p1 p2 p3 p4 t T T2 t3 th r2) (h : TpR tp T) : t2 = t3 ∧ TpR tp2 T2 ∧ r = r2 := by
  obtain ⟨_, rfl, hx⟩ := hx
  obtain ⟨_, rfl, hm⟩ := hm
  rcases hx with ⟨q, hx⟩ | ⟨q, rfl, rfl, rfl⟩
  · rcases hm with ⟨-, n, hm⟩ | ⟨q2, -⟩
    · obtain ⟨rfl, rfl, -, rfl⟩ := fd_all 20 0 t n T (by decide) (by decide) hm
      obtain ⟨t5, tp5, ⟨_, rfl, _, rfl, _, rfl, _, rfl, _, rfl, _, rfl, _, rfl, _, rfl, _, rfl, _, rfl, _, rfl, _, rfl, rfl, rfl⟩, hx⟩ := hx
      obtain ⟨t5, tp5, ⟨_, rfl, _, rfl, _, rfl, _, rfl, _, rfl, _, rfl, _, rfl, _, rfl, _, rfl, _, rfl, _, rfl, _, rfl, rfl, rfl⟩, hx⟩ := hx
      obtain ⟨t5, tp5, ⟨_, rfl, _, rfl, _, rfl, _, rfl, _, rfl, _, rfl, _, rfl, _, rfl, _, rfl, _, rfl, _, rfl, _, rfl, rfl, rfl⟩, hx⟩ := hx
      obtain ⟨t5, tp5, ⟨_, rfl, _, rfl, _, rfl, _, rfl, _, rfl, _, rfl, _, rfl, _, rfl, _, rfl, _, rfl, _, rfl, _, rfl, rfl, rfl⟩, hx⟩ := hx
      obtain ⟨t5, tp5, ⟨_, rfl, _, rfl, _, rfl, _, rfl, _, rfl, _, rfl, _, rfl, _, rfl, _, rfl, _, rfl, _, rfl, _, rfl, rfl, rfl⟩, rfl, rfl, rfl⟩ := hx
      refine ⟨rfl, ?_, rfl⟩
      unfold fdT fdT fdT fdT fdT fdT fdT fdT fdT fdT fdT fdT fdT fdT fdT fdT fdT fdT fdT fdT fdT
      refine TpR_upd ?_ (by decide)
      refine TpR_upd ?_ (by decide)
      refine TpR_upd ?_ (by decide)
      refine TpR_upd ?_ (by decide)
      refine TpR_upd ?_ (by decide)
      refine TpR_upd ?_ (by decide)
      refine TpR_upd ?_ (by decide)
      refine TpR_upd ?_ (by decide)
      refine TpR_upd ?_ (by decide)
      refine TpR_upd ?_ (by decide)
      refine TpR_upd ?_ (by decide)
      refine TpR_upd ?_ (by decide)
      refine TpR_upd ?_ (by decide)
      refine TpR_upd ?_ (by decide)
      refine TpR_upd ?_ (by decide)
      refine TpR_upd ?_ (by decide)
      refine TpR_upd ?_ (by decide)
      refine TpR_upd ?_ (by decide)
      refine TpR_upd ?_ (by decide)
      refine TpR_upd ?_ (by decide)
      exact h
    · exact absurd q q2
  · rcases hm with ⟨q2, -⟩ | ⟨-, rfl, rfl, -, rfl⟩
    · exact absurd q2 q
    · exact ⟨rfl, h, rfl⟩

def NZ {α : Type} (x : Rs α) : Prop := ∀ e : Int32 × Int32, x = .inl e → e.1 ≠ 0
theorem NZ_l {α : Type} {k a : Int32} (h : k ≠ 0) : NZ (α := α) (.inl (k, a)) := fun e q => by cases q; exact h
theorem NZ_r {α : Type} (v : α) : NZ (α := α) (.inr v) := fun e q => by cases q
theorem NZ_ite {α : Type} {c : Prop} {d : Decidable c} {x y : Rs α} (hx : NZ x) (hy : NZ y) : NZ (@ite _ c d x y) := by
  by_cases q : c
  · rw [if_pos q]; exact hx
  · rw [if_neg q]; exact hy
theorem NZ_bnd {α β : Type} {x : Rs α} {f : α → Rs β} (hx : NZ x) (hf : ∀ v, NZ (f v)) : NZ (bnd x f) := by
  cases x with
  | inl e => intro e2 q; exact hx e2 (by rw [Sum.inl.inj q])
  | inr v => exact hf v
theorem NZ_labS {T : Nat → Int32} {n : Int32} {w : String} {a : Int32} : NZ (labS T n w a) := by
  unfold labS
  exact (NZ_ite (NZ_r _) (NZ_l (by decide)))
theorem NZ_numH {T : Nat → Int32} {n : Int32} {lo hi a : Int32} : NZ (numH T n lo hi a) := by
  unfold numH
  exact (NZ_ite (NZ_ite (NZ_l (by decide)) (NZ_ite (NZ_l (by decide)) (NZ_r _))) (NZ_l (by decide)))
theorem NZ_numS {T : Nat → Int32} {n : Int32} {lo hi a : Int32} : NZ (numS T n lo hi a) := by
  unfold numS
  exact (NZ_bnd (NZ_numH) (fun _ => (NZ_r _)))
theorem NZ_newS {F T : Nat → Int32} {n : Int32} {s : Nat} {a : Int32} : NZ (newS F T n s a) := by
  unfold newS
  exact (NZ_ite (NZ_ite (NZ_r _) (NZ_l (by decide))) (NZ_l (by decide)))
theorem NZ_oldS {F T : Nat → Int32} {n : Int32} {lo hi a : Int32} : NZ (oldS F T n lo hi a) := by
  unfold oldS
  exact (NZ_ite (NZ_ite (NZ_l (by decide)) (NZ_ite (NZ_l (by decide)) (NZ_r _))) (NZ_l (by decide)))
theorem NZ_aftS {T : Nat → Int32} {n : Int32} {w : String} {lo hi a : Int32} : NZ (aftS T n w lo hi a) := by
  unfold aftS
  exact (NZ_bnd (NZ_labS) (fun _ => NZ_numS))
theorem NZ_houseS {F T : Nat → Int32} {n : Int32} {a : Int32} : NZ (houseS F T n a) := by
  unfold houseS
  exact (NZ_ite (NZ_l (by decide)) (NZ_bnd (NZ_aftS) (fun _ => (NZ_bnd (NZ_aftS) (fun _ => (NZ_bnd (NZ_aftS) (fun _ => (NZ_bnd (NZ_aftS) (fun _ => (NZ_bnd (NZ_aftS) (fun _ => (NZ_bnd (NZ_aftS) (fun _ => (NZ_r _))))))))))))))
theorem NZ_reelS {F T : Nat → Int32} {n : Int32} {a : Int32} : NZ (reelS F T n a) := by
  unfold reelS
  exact (NZ_bnd (NZ_newS) (fun _ => (NZ_bnd (NZ_aftS) (fun _ => (NZ_bnd (NZ_aftS) (fun _ => (NZ_bnd (NZ_aftS) (fun _ => (NZ_r _)))))))))
theorem NZ_townS {F T : Nat → Int32} {n : Int32} {a : Int32} : NZ (townS F T n a) := by
  unfold townS
  exact (NZ_bnd (NZ_newS) (fun _ => (NZ_bnd (NZ_aftS) (fun _ => (NZ_r _)))))
theorem NZ_boysS {F T : Nat → Int32} {n : Int32} {a : Int32} : NZ (boysS F T n a) := by
  unfold boysS
  exact (NZ_bnd (NZ_numS) (fun _ => (NZ_bnd (NZ_aftS) (fun _ => (NZ_bnd (NZ_aftS) (fun _ => (NZ_r _)))))))
theorem NZ_seenS {F T : Nat → Int32} {n : Int32} {a : Int32} : NZ (seenS F T n a) := by
  unfold seenS
  exact (NZ_ite (NZ_l (by decide)) (NZ_ite (NZ_l (by decide)) (NZ_ite (NZ_l (by decide)) (NZ_bnd (NZ_numS) (fun _ => (NZ_bnd (NZ_aftS) (fun _ => (NZ_bnd (NZ_aftS) (fun _ => (NZ_r _))))))))))
theorem NZ_reelP {F T : Nat → Int32} {n : Int32} {a : Int32} : NZ (reelP F T n a) := by
  unfold reelP
  exact (NZ_bnd (NZ_oldS) (fun _ => (NZ_r _)))
theorem NZ_joinS {F T : Nat → Int32} {n : Int32} {a : Int32} : NZ (joinS F T n a) := by
  unfold joinS
  exact (NZ_bnd (NZ_reelP) (fun _ => (NZ_bnd (NZ_numS) (fun _ => (NZ_bnd (NZ_aftS) (fun _ => (NZ_r _)))))))
theorem NZ_scratchS {F T : Nat → Int32} {n : Int32} {a : Int32} : NZ (scratchS F T n a) := by
  unfold scratchS
  exact (NZ_bnd (NZ_reelP) (fun _ => (NZ_bnd (NZ_numS) (fun _ => (NZ_r _)))))
theorem NZ_opnS {F T : Nat → Int32} {n : Int32} {p a : Int32} : NZ (opnS F T n p a) := by
  unfold opnS
  exact (NZ_ite (NZ_l (by decide)) (NZ_ite (NZ_l (by decide)) (NZ_r _)))
theorem NZ_onceS {F T : Nat → Int32} {n : Int32} {p a : Int32} : NZ (onceS F T n p a) := by
  unfold onceS
  exact (NZ_ite (NZ_ite (NZ_l (by decide)) (NZ_r _)) (NZ_l (by decide)))
theorem NZ_markS {F T : Nat → Int32} {n : Int32} {a : Int32} : NZ (markS F T n a) := by
  unfold markS
  exact (NZ_bnd (NZ_reelP) (fun _ => (NZ_bnd (NZ_numS) (fun _ => (NZ_bnd (NZ_labS) (fun _ => (NZ_bnd (NZ_oldS) (fun _ => (NZ_ite (NZ_l (by decide)) (NZ_r _))))))))))
theorem NZ_weakS {F T : Nat → Int32} {n : Int32} {a : Int32} : NZ (weakS F T n a) := by
  unfold weakS
  exact (NZ_bnd (NZ_reelP) (fun _ => (NZ_bnd (NZ_numH) (fun _ => (NZ_ite (NZ_l (by decide)) (NZ_bnd (NZ_aftS) (fun _ => (NZ_r _))))))))
theorem NZ_showE {T : Nat → Int32} {n : Int32} {m : Nat} {F : Nat → Int32} {b : Int32} : NZ (showE T n m F b) := by
  unfold showE
  exact (NZ_ite (NZ_ite (NZ_l (by decide)) (NZ_ite (NZ_l (by decide)) (NZ_l (by decide)))) (NZ_r _))
theorem NZ_showG (T : Nat → Int32) (n : Int32) : ∀ (f m : Nat) (F : Nat → Int32) (a : Int32), 9 ≤ f + m → m ≤ 8 → NZ (showG T n f m F a) := by
  intro f
  induction f with
  | zero => intro m F a h1 h2; omega
  | succ f ih =>
    intro m F a h1 h2
    rw [showG]
    refine NZ_bnd NZ_oldS (fun r => ?_)
    by_cases q : m = 8
    · rw [if_pos q]; exact NZ_l (by decide)
    · rw [if_neg q]
      refine NZ_ite ?_ NZ_showE
      exact ih _ _ _ (by omega) (by omega)
theorem NZ_showS {F T : Nat → Int32} {n a : Int32} : NZ (showS F T n a) := NZ_showG T n 9 0 F a (by omega) (by omega)
theorem NZ_manE {F0 T : Nat → Int32} {n : Int32} {s : Nat} {kind town c a : Int32} : NZ (manE F0 T n s kind town c a) := by
  unfold manE
  exact (NZ_bnd (NZ_aftS) (fun _ => (NZ_r _)))
theorem NZ_manS {F T : Nat → Int32} {n : Int32} {a : Int32} : NZ (manS F T n a) := by
  unfold manS
  exact (NZ_bnd (NZ_newS) (fun _ => (NZ_ite (NZ_manE) (NZ_ite (NZ_manE) (NZ_ite (NZ_manE) (NZ_ite (NZ_bnd (NZ_oldS) (fun _ => (NZ_manE))) (NZ_l (by decide))))))))
theorem NZ_lineS {F T : Nat → Int32} {n : Int32} {a : Int32} : NZ (lineS F T n a) := by
  unfold lineS
  exact (NZ_ite (NZ_houseS) (NZ_ite (NZ_bnd (NZ_opnS) (fun _ => NZ_reelS)) (NZ_ite (NZ_bnd (NZ_opnS) (fun _ => NZ_townS)) (NZ_ite (NZ_bnd (NZ_opnS) (fun _ => NZ_markS)) (NZ_ite (NZ_bnd (NZ_opnS) (fun _ => NZ_joinS)) (NZ_ite (NZ_bnd (NZ_opnS) (fun _ => NZ_weakS)) (NZ_ite (NZ_bnd (NZ_opnS) (fun _ => NZ_manS)) (NZ_ite (NZ_bnd (NZ_onceS) (fun _ => NZ_showS)) (NZ_ite (NZ_bnd (NZ_onceS) (fun _ => NZ_boysS)) (NZ_ite (NZ_seenS) (NZ_ite (NZ_bnd (NZ_opnS) (fun _ => NZ_scratchS)) (NZ_l (by decide)))))))))))))
theorem NZ_text {T : Nat → Int32} {n : Int32} : ∀ (k : Nat) (F : Nat → Int32) (a : Int32) (e : Int32 × Int32), TxR T n k F a (.inl e) → e.1 ≠ 0 := by
  intro k
  induction k with
  | zero => intro F a e h; exact h.elim
  | succ k ih =>
    intro F a e h
    rw [TxR] at h
    rcases h.2 with ⟨e2, h1, h2⟩ | ⟨v, h1, h2⟩
    · cases h2
      exact NZ_lineS _ h1
    · rcases h2 with ⟨-, h2⟩ | ⟨-, ⟨-, h2⟩ | ⟨-, h2⟩⟩ | ⟨-, -, h2⟩
      · exact ih _ _ _ h2
      · cases h2; exact (show (6 : Int32) ≠ 0 from by decide)
      · cases h2
      · cases h2; exact (show (1 : Int32) ≠ 0 from by decide)

set_option maxRecDepth 100000
set_option maxHeartbeats 4000000
theorem add1z {u z : Int32} {m : Nat} (hu : u.toInt = m) (hm : m < 1000) (hz : u + Int32.ofInt 1 = z) : z.toInt = m + 1 := by
  have o : (Int32.ofInt 1).toInt = 1 := by decide
  rw [← hz, Int32.toInt_add, o, hu, Int.bmod_eq_of_le (by omega) (by omega)]
theorem addz {a b z : Int32} {x y : Nat} (ha : a.toInt = x) (hb : b.toInt = y) (hx : x + y < 10000) (hz : z = a + b) : z.toNatClampNeg = x + y := by
  have e : z.toInt = x + y := by rw [hz, Int32.toInt_add, ha, hb, Int.bmod_eq_of_le (by omega) (by omega)]
  have := tn_i (z := z) (by omega)
  omega
theorem tnz {z : Int32} {x : Nat} (h : z.toInt = x) : z.toNatClampNeg = x := by
  have := tn_i (z := z) (by omega)
  omega
theorem cpA_L {p3 : Int32} {f1 f2 : Nat → Int32} {κ : (Nat → Int32) → Prop} {P : Nat} (hp : p3.toInt = P) (hP : P ≤ 484) : ∀ (n : Nat) (f : Nat → Int32) (u : Int32) (m : Nat), u.toInt = m → m ≤ 44 → (∀ i : Nat, i < m → f (P + i) = f1 i) → (∀ i : Nat, (i < P ∨ P + m ≤ i) → f i = f2 i) → R_m_copyAX_L0 p3 f1 κ n f u → ∃ f3 : Nat → Int32, κ f3 ∧ (∀ i : Nat, i < 44 → f3 (P + i) = f1 i) ∧ (∀ i : Nat, (i < P ∨ P + 44 ≤ i) → f3 i = f2 i) := by
  intro n
  induction n with
  | zero => intro f u m _ _ _ _ h; exact h.elim
  | succ n ih =>
    intro f u m hu hm h1 h2 h
    have e44 : (44 : Int32).toInt = 44 := by decide
    unfold R_m_copyAX_L0 at h
    rcases h with ⟨q, h⟩ | ⟨q, z12, hz12, z15, hz15, z18, hz18, z20, hz20, h⟩
    · rw [le_I, e44] at q
      obtain rfl : m = 44 := by omega
      exact ⟨f, h, h1, h2⟩
    · rw [le_I, e44] at q
      have c12 := addz hp hu (by omega) hz12
      have c15 := (addz (a := 0) (x := 0) (by decide) hu (by omega) hz15)
      rw [c15] at hz18
      rw [c12] at h
      refine ih _ z20 (m + 1) (by rw [add1z hu (by omega) hz20]; omega) (by omega) ?_ ?_ h
      · intro i hi
        by_cases e : i = m
        · subst e
          rw [upd_at, hz18, Nat.zero_add]
        · rw [upd_ne (by omega)]; exact h1 i (by omega)
      · intro i hi
        rw [upd_ne (by omega)]; exact h2 i (by omega)
theorem cpA {p3 : Int32} {f1 f2 f3 : Nat → Int32} {P : Nat} (hp : p3.toInt = P) (hP : P ≤ 484) (h : R_m_copyAX p3 f1 f2 f3) : (∀ i : Nat, i < 44 → f3 (P + i) = f1 i) ∧ (∀ i : Nat, (i < P ∨ P + 44 ≤ i) → f3 i = f2 i) := by
  obtain ⟨n, h⟩ := h
  obtain ⟨f4, rfl, h1, h2⟩ := cpA_L hp hP n f2 0 0 (by decide) (by omega) (fun i hi => by omega) (fun i _ => rfl) h
  exact ⟨h1, h2⟩
theorem cpB_L {p1 : Int32} {f1 f2 : Nat → Int32} {κ : (Nat → Int32) → Prop} {P : Nat} (hp : p1.toInt = P) (hP : P ≤ 484) : ∀ (n : Nat) (f : Nat → Int32) (u : Int32) (m : Nat), u.toInt = m → m ≤ 44 → (∀ i : Nat, i < m → f i = f1 (P + i)) → (∀ i : Nat, m ≤ i → f i = f2 i) → R_m_copyBX_L0 p1 f1 κ n f u → ∃ f3 : Nat → Int32, κ f3 ∧ (∀ i : Nat, i < 44 → f3 i = f1 (P + i)) ∧ (∀ i : Nat, 44 ≤ i → f3 i = f2 i) := by
  intro n
  induction n with
  | zero => intro f u m _ _ _ _ h; exact h.elim
  | succ n ih =>
    intro f u m hu hm h1 h2 h
    have e44 : (44 : Int32).toInt = 44 := by decide
    unfold R_m_copyBX_L0 at h
    rcases h with ⟨q, h⟩ | ⟨q, z12, hz12, z15, hz15, z18, hz18, z20, hz20, h⟩
    · rw [le_I, e44] at q
      obtain rfl : m = 44 := by omega
      exact ⟨f, h, h1, h2⟩
    · rw [le_I, e44] at q
      have c12 := addz (a := 0) (x := 0) (by decide) hu (by omega) hz12
      have c15 := (addz hp hu (by omega) hz15)
      rw [c15] at hz18
      rw [c12] at h
      refine ih _ z20 (m + 1) (by rw [add1z hu (by omega) hz20]; omega) (by omega) ?_ ?_ h
      · intro i hi
        by_cases e : i = m
        · subst e
          rw [Nat.zero_add, upd_at, hz18]
        · rw [upd_ne (by omega)]; exact h1 i (by omega)
      · intro i hi
        rw [upd_ne (by omega)]; exact h2 i (by omega)
theorem cpB {p1 : Int32} {f1 f2 f3 : Nat → Int32} {P : Nat} (hp : p1.toInt = P) (hP : P ≤ 484) (h : R_m_copyBX p1 f1 f2 f3) : (∀ i : Nat, i < 44 → f3 i = f1 (P + i)) ∧ (∀ i : Nat, 44 ≤ i → f3 i = f2 i) := by
  obtain ⟨n, h⟩ := h
  obtain ⟨f4, rfl, h1, h2⟩ := cpB_L hp hP n f2 0 0 (by decide) (by omega) (fun i hi => by omega) (fun i _ => rfl) h
  exact ⟨h1, h2⟩
theorem cpC_L {p3 : Int32} {f1 f2 : Nat → Int32} {κ : (Nat → Int32) → Prop} {P : Nat} (hp : p3.toInt = P) (hP : P ≤ 88) : ∀ (n : Nat) (f : Nat → Int32) (u : Int32) (m : Nat), u.toInt = m → m ≤ 44 → (∀ i : Nat, i < m → f (P + i) = f1 i) → (∀ i : Nat, (i < P ∨ P + m ≤ i) → f i = f2 i) → R_m_copyCX_L0 p3 f1 κ n f u → ∃ f3 : Nat → Int32, κ f3 ∧ (∀ i : Nat, i < 44 → f3 (P + i) = f1 i) ∧ (∀ i : Nat, (i < P ∨ P + 44 ≤ i) → f3 i = f2 i) := by
  intro n
  induction n with
  | zero => intro f u m _ _ _ _ h; exact h.elim
  | succ n ih =>
    intro f u m hu hm h1 h2 h
    have e44 : (44 : Int32).toInt = 44 := by decide
    unfold R_m_copyCX_L0 at h
    rcases h with ⟨q, h⟩ | ⟨q, z12, hz12, z15, hz15, z18, hz18, z20, hz20, h⟩
    · rw [le_I, e44] at q
      obtain rfl : m = 44 := by omega
      exact ⟨f, h, h1, h2⟩
    · rw [le_I, e44] at q
      have c12 := addz hp hu (by omega) hz12
      have c15 := (addz (a := 0) (x := 0) (by decide) hu (by omega) hz15)
      rw [c15] at hz18
      rw [c12] at h
      refine ih _ z20 (m + 1) (by rw [add1z hu (by omega) hz20]; omega) (by omega) ?_ ?_ h
      · intro i hi
        by_cases e : i = m
        · subst e
          rw [upd_at, hz18, Nat.zero_add]
        · rw [upd_ne (by omega)]; exact h1 i (by omega)
      · intro i hi
        rw [upd_ne (by omega)]; exact h2 i (by omega)
theorem cpC {p3 : Int32} {f1 f2 f3 : Nat → Int32} {P : Nat} (hp : p3.toInt = P) (hP : P ≤ 88) (h : R_m_copyCX p3 f1 f2 f3) : (∀ i : Nat, i < 44 → f3 (P + i) = f1 i) ∧ (∀ i : Nat, (i < P ∨ P + 44 ≤ i) → f3 i = f2 i) := by
  obtain ⟨n, h⟩ := h
  obtain ⟨f4, rfl, h1, h2⟩ := cpC_L hp hP n f2 0 0 (by decide) (by omega) (fun i hi => by omega) (fun i _ => rfl) h
  exact ⟨h1, h2⟩
theorem cpD_L {p1 : Int32} {f1 f2 : Nat → Int32} {κ : (Nat → Int32) → Prop} {P : Nat} (hp : p1.toInt = P) (hP : P ≤ 88) : ∀ (n : Nat) (f : Nat → Int32) (u : Int32) (m : Nat), u.toInt = m → m ≤ 44 → (∀ i : Nat, i < m → f i = f1 (P + i)) → (∀ i : Nat, m ≤ i → f i = f2 i) → R_m_copyDX_L0 p1 f1 κ n f u → ∃ f3 : Nat → Int32, κ f3 ∧ (∀ i : Nat, i < 44 → f3 i = f1 (P + i)) ∧ (∀ i : Nat, 44 ≤ i → f3 i = f2 i) := by
  intro n
  induction n with
  | zero => intro f u m _ _ _ _ h; exact h.elim
  | succ n ih =>
    intro f u m hu hm h1 h2 h
    have e44 : (44 : Int32).toInt = 44 := by decide
    unfold R_m_copyDX_L0 at h
    rcases h with ⟨q, h⟩ | ⟨q, z12, hz12, z15, hz15, z18, hz18, z20, hz20, h⟩
    · rw [le_I, e44] at q
      obtain rfl : m = 44 := by omega
      exact ⟨f, h, h1, h2⟩
    · rw [le_I, e44] at q
      have c12 := addz (a := 0) (x := 0) (by decide) hu (by omega) hz12
      have c15 := (addz hp hu (by omega) hz15)
      rw [c15] at hz18
      rw [c12] at h
      refine ih _ z20 (m + 1) (by rw [add1z hu (by omega) hz20]; omega) (by omega) ?_ ?_ h
      · intro i hi
        by_cases e : i = m
        · subst e
          rw [Nat.zero_add, upd_at, hz18]
        · rw [upd_ne (by omega)]; exact h1 i (by omega)
      · intro i hi
        rw [upd_ne (by omega)]; exact h2 i (by omega)
theorem cpD {p1 : Int32} {f1 f2 f3 : Nat → Int32} {P : Nat} (hp : p1.toInt = P) (hP : P ≤ 88) (h : R_m_copyDX p1 f1 f2 f3) : (∀ i : Nat, i < 44 → f3 i = f1 (P + i)) ∧ (∀ i : Nat, 44 ≤ i → f3 i = f2 i) := by
  obtain ⟨n, h⟩ := h
  obtain ⟨f4, rfl, h1, h2⟩ := cpD_L hp hP n f2 0 0 (by decide) (by omega) (fun i hi => by omega) (fun i _ => rfl) h
  exact ⟨h1, h2⟩
theorem note_L {f2 : Nat → Int32} {κ : (Nat → Int32) → Prop} : ∀ (n : Nat) (f : Nat → Int32) (u : Int32) (m : Nat), u.toInt = m → m ≤ 484 → (∀ i : Nat, i < m → f i = f2 (i + 44)) → (∀ i : Nat, m ≤ i → f i = f2 i) → R_m_noteX_L0 κ n f u → ∃ f3 : Nat → Int32, κ f3 ∧ (∀ i : Nat, i < 484 → f3 i = f2 (i + 44)) := by
  intro n
  induction n with
  | zero => intro f u m _ _ _ _ h; exact h.elim
  | succ n ih =>
    intro f u m hu hm h1 h2 h
    have e484 : (484 : Int32).toInt = 484 := by decide
    unfold R_m_noteX_L0 at h
    rcases h with ⟨q, h⟩ | ⟨q, z36, hz36, z39, hz39, z41, hz41, h⟩
    · rw [le_I, e484] at q
      obtain rfl : m = 484 := by omega
      exact ⟨f, h, h1⟩
    · rw [le_I, e484] at q
      have c36 := addz hu (show (44 : Int32).toInt = (44 : Nat) by decide) (by omega) hz36
      rw [c36, h2 _ (by omega)] at hz39
      rw [tnz hu] at h
      refine ih _ z41 (m + 1) (by rw [add1z hu (by omega) hz41]; omega) (by omega) ?_ ?_ h
      · intro i hi
        by_cases e : i = m
        · subst e
          rw [upd_at, hz39]
        · rw [upd_ne (by omega)]; exact h1 i (by omega)
      · intro i hi
        rw [upd_ne (by omega)]; exact h2 i (by omega)

/-- a State of the class is a row of 44 of the reference, under a house F -/
def SR (F S : Nat → Int32) (rn mn wn pn md tr : Int32) (rf mf wf pf : Nat → Int32) : Prop :=
  (rn = F 6 ∧ mn = F 8 ∧ wn = F 10 ∧ pn = F 12 ∧ md = S 43 ∧ tr = S 42) ∧
  (∀ k : Nat, (k : Int) < (F 6).toInt → rf (3 * k) = S k ∧ rf (3 * k + 1) = S (8 + k) ∧ rf (3 * k + 2) = F (16 + 3 * k + 2)) ∧
  (∀ k : Nat, (k : Int) < (F 8).toInt → mf (3 * k) = F (44 + 3 * k) ∧ mf (3 * k + 1) = S (16 + k) ∧ mf (3 * k + 2) = F (44 + 3 * k + 2)) ∧
  (∀ k : Nat, (k : Int) < (F 10).toInt → wf (3 * k) = F (96 + 3 * k) ∧ wf (3 * k + 1) = S (28 + k) ∧ wf (3 * k + 2) = F (96 + 3 * k + 2)) ∧
  (∀ k : Nat, (k : Int) < (F 12).toInt → pf (2 * k) = F (126 + k) ∧ pf (2 * k + 1) = S (34 + k))
def SRel (F S : Nat → Int32) (c : SC) : Prop := SR F S c.1 c.2.1 c.2.2.1 c.2.2.2.1 c.2.2.2.2.1 c.2.2.2.2.2.1 c.2.2.2.2.2.2.1 c.2.2.2.2.2.2.2.1 c.2.2.2.2.2.2.2.2.1 c.2.2.2.2.2.2.2.2.2
def FB (F : Nat → Int32) : Prop := IV (F 6) 0 8 ∧ IV (F 8) 0 12 ∧ IV (F 10) 0 6 ∧ IV (F 12) 0 8
theorem SR.row {F S S2 : Nat → Int32} {rn mn wn pn md tr : Int32} {rf mf wf pf : Nat → Int32} (hF : FB F) (h : SR F S rn mn wn pn md tr rf mf wf pf) (e : ∀ i : Nat, i < 44 → S2 i = S i) : SR F S2 rn mn wn pn md tr rf mf wf pf := by
  obtain ⟨⟨a1, a2, a3, a4, a5, a6⟩, h1, h2, h3, h4⟩ := h
  obtain ⟨⟨-, b1⟩, ⟨-, b2⟩, ⟨-, b3⟩, ⟨-, b4⟩⟩ := hF
  refine ⟨⟨a1, a2, a3, a4, by rw [e 43 (by first | decide | omega)]; exact a5, by rw [e 42 (by first | decide | omega)]; exact a6⟩, fun k hk => ?_, fun k hk => ?_, fun k hk => ?_, fun k hk => ?_⟩
  · rw [e k (by omega), e (8 + k) (by omega)]; exact h1 k hk
  · rw [e (16 + k) (by omega)]; exact h2 k hk
  · rw [e (28 + k) (by omega)]; exact h3 k hk
  · rw [e (34 + k) (by omega)]; exact h4 k hk
theorem cpy0 {f g : Nat → Int32} {n : Int32} {j : Nat} (h : (j : Int) < n.toInt) : va_cpy f g (0 : Int32).toNatClampNeg (0 : Int32).toNatClampNeg n.toNatClampNeg j = f j := by
  have z : (0 : Int32).toNatClampNeg = 0 := by decide
  have t := tn_i (z := n) (by omega)
  rw [z, pk_cpy_in (by omega) (by omega)]
  congr 1
  omega
theorem SR.copy {F S : Nat → Int32} {xrf xmf xwf xpf : Nat → Int32} {ymd ytr yrn ymn ywn ypn : Int32} {yrf ymf ywf ypf xrg xmg xwg xpg : Nat → Int32} {xrk xmk xwk xpk xmd2 xtr2 : Int32} (hF : FB F) (h : SR F S yrn ymn ywn ypn ymd ytr yrf ymf ywf ypf) (hc : R_s_copyFromX xrf xmf xwf xpf ymd ytr yrn yrf ymn ymf ywn ywf ypn ypf xrg xmg xwg xpg xrk xmk xwk xpk xmd2 xtr2) : SR F S xrk xmk xwk xpk xmd2 xtr2 xrg xmg xwg xpg := by
  obtain ⟨⟨a1, a2, a3, a4, a5, a6⟩, h1, h2, h3, h4⟩ := h
  obtain ⟨⟨-, b1⟩, ⟨-, b2⟩, ⟨-, b3⟩, ⟨-, b4⟩⟩ := hF
  unfold R_s_copyFromX R_t_copyFrom8_3X R_t_copyFrom12_3X R_t_copyFrom6_3X R_t_copyFrom8_2X at hc
  obtain ⟨g1, k1, ⟨e1, e2⟩, g2, k2, ⟨e3, e4⟩, g3, k3, ⟨e5, e6⟩, g4, k4, ⟨e7, e8⟩, rfl, rfl, rfl, rfl, rfl, rfl, rfl, rfl, rfl, rfl⟩ := hc
  have n24 : (24 : Int32).toInt = 24 := by decide
  have n36 : (36 : Int32).toInt = 36 := by decide
  have n18 : (18 : Int32).toInt = 18 := by decide
  have n16 : (16 : Int32).toInt = 16 := by decide
  refine ⟨⟨e2.trans a1, e4.trans a2, e6.trans a3, e8.trans a4, a5, a6⟩, fun k hk => ?_, fun k hk => ?_, fun k hk => ?_, fun k hk => ?_⟩
  · rw [e1, cpy0 (by omega), cpy0 (by omega), cpy0 (by omega)]; exact h1 k hk
  · rw [e3, cpy0 (by omega), cpy0 (by omega), cpy0 (by omega)]; exact h2 k hk
  · rw [e5, cpy0 (by omega), cpy0 (by omega), cpy0 (by omega)]; exact h3 k hk
  · rw [e7, cpy0 (by omega), cpy0 (by omega)]; exact h4 k hk
/-- what is kept: undo's rows and the images -/
def KRel (F U X : Nat → Int32) (undos images kac knx kim : Int32) (cf : Nat → SC) : Prop :=
  (kac = undos ∧ kim = images ∧ IV kac 0 12 ∧ IV knx 0 11 ∧ IV kim 0 3) ∧
  (∀ i : Nat, (i : Int) < kac.toInt → SRel F (fun j => U (44 * i + j)) (cf ((knx.toInt.toNat + 12 - kac.toInt.toNat + i) % 12))) ∧
  (∀ i : Nat, (i : Int) < kim.toInt → SRel F (fun j => X (44 * i + j)) (cf (12 + i)))
theorem mul44 {a z : Int32} {x : Nat} (ha : a.toInt = x) (hx : x ≤ 12) (hz : z = (44 : Int32) * a) : z.toInt = (44 * x : Nat) := by
  have e : (44 : Int32).toInt = 44 := by decide
  rw [hz, Int32.toInt_mul, e, ha, Int.bmod_eq_of_le (by omega) (by omega)]
  omega
theorem kp1 {x i : Nat} (hx : x ≤ 11) (hi : i ≤ 11) : ((x + 1) % 12 + 12 - min (i + 1) 12 + i) % 12 = x := by omega
theorem kp2 {x a i : Nat} (hx : x ≤ 11) (ha : a ≤ 11) : ((x + 1) % 12 + 12 - min (a + 1) 12 + i) % 12 = (x + 12 - a + i) % 12 := by omega
theorem kp3 {x : Nat} (hx : x ≤ 11) : ((x + 1) % 12 + 12 - min (12 + 1) 12 + 11) % 12 = x := by omega
theorem kp4 {x i : Nat} (hx : x ≤ 11) : ((x + 1) % 12 + 12 - min (12 + 1) 12 + i) % 12 = (x + 12 - 12 + (i + 1)) % 12 := by omega
theorem K_keep {F S U U2 X : Nat → Int32} {undos undos2 images kac knx kim kac2 knx2 zmd ztr zrn zmn zwn zpn : Int32} {zrf zmf zwf zpf : Nat → Int32} {cf cf2 : Nat → SC} (hF : FB F) (hS : SR F S zrn zmn zwn zpn zmd ztr zrf zmf zwf zpf) (hK : KRel F U X undos images kac knx kim cf) (hc : R_g_keepX kac knx zmd ztr zrn zrf zmn zmf zwn zwf zpn zpf cf kac2 knx2 cf2) (hm : R_m_noteX undos S U U2 undos2) : KRel F U2 X undos2 images kac2 knx2 kim cf2 := by
  obtain ⟨⟨e1, e2, i1, i2, i3⟩, hu, hx⟩ := hK
  subst e1
  unfold R_g_keepX at hc
  refine exE10 hc ?_
  clear hc
  intro y1 y2 y3 y4 y5 y6 y7 y8 y9 y10 hy hc
  refine exE10 hc ?_
  clear hc
  intro g1 g2 g3 g4 g5 g6 g7 g8 g9 g10 hcp hc
  refine exE1 hc ?_
  clear hc
  intro z29 h29 hc
  refine exE1 hc ?_
  clear hc
  intro z32 h32 hc
  refine exE1 hc ?_
  clear hc
  intro z34 h34 hc
  refine exE1 hc ?_
  clear hc
  intro z37 h37 hc
  refine exA2 hc ?_
  clear hc
  intro hk7 hk8 hcf
  subst hk7 hk8 hcf
  have hN := SR.copy hF hS hcp
  have o1 : (1 : Int32).toInt = 1 := by decide
  have o12 : (12 : Int32).toInt = 12 := by decide
  obtain ⟨a, ha⟩ : ∃ a : Nat, kac.toInt = a := ⟨kac.toInt.toNat, by have := i1.1; omega⟩
  obtain ⟨x, hxn⟩ : ∃ a : Nat, knx.toInt = a := ⟨knx.toInt.toNat, by have := i2.1; omega⟩
  have ia := i1
  have ix := i2
  rw [IV, ha] at ia
  rw [IV, hxn] at ix
  have t29 : z29.toInt = x + 1 := by rw [h29, Int32.toInt_add, hxn, o1, Int.bmod_eq_of_le (by omega) (by omega)]
  have t34 : z34.toInt = a + 1 := by rw [h34, Int32.toInt_add, ha, o1, Int.bmod_eq_of_le (by omega) (by omega)]
  have t32 : knx2.toInt = ((x + 1) % 12 : Nat) := by
    by_cases q : x = 11
    · have : z29 = 12 := Int32.toInt_inj.mp (by rw [t29, o12, q]; rfl)
      rw [h32, this, q]
      decide
    · have : z29 / 12 = 0 := Int32.toInt_inj.mp (by
        rw [Int32.toInt_div, t29, o12]
        have : ((x : Int) + 1).tdiv 12 = 0 := Int.tdiv_eq_zero_of_lt (by omega) (by omega)
        rw [this]; decide)
      rw [h32, this, show (0 : Int32) * 12 = 0 by decide, show z29 - 0 = z29 from Int32.toInt_inj.mp (by rw [Int32.toInt_sub, t29, zI, Int.bmod_eq_of_le (by omega) (by omega)]; omega), t29]
      omega
  have t37 : kac2.toInt = (min (a + 1) 12 : Nat) := by
    rw [h37]
    by_cases q : a = 12
    · rw [if_pos (by rw [lt_I, o12, t34]; omega), o12]; omega
    · rw [if_neg (by rw [lt_I, o12, t34]; omega), t34]; omega
  have tk : knx.toNatClampNeg = x := tnz hxn
  rw [tk]
  have q32 : knx2.toInt.toNat = (x + 1) % 12 := by omega
  have q37 : kac2.toInt.toNat = min (a + 1) 12 := by omega
  have qk : knx.toInt.toNat = x := by omega
  have qa : kac.toInt.toNat = a := by omega
  have hx2 : ∀ i : Nat, (i : Int) < kim.toInt → SRel F (fun j => X (44 * i + j)) (ucf cf x (g5, g6, g7, g8, g9, g10, g1, g2, g3, g4) (12 + i)) := by
    intro i hi
    rw [ucf_ne (by omega)]
    exact hx i hi
  unfold R_m_noteX at hm
  rcases hm with ⟨n12, z3, h3, f6, hcp2, z9, h9, rfl, rfl⟩ | ⟨y12, n0, hL⟩
  · have a12 : a ≠ 12 := fun q => n12 (Int32.toInt_inj.mp (by rw [ha, o12, q]; rfl))
    have t9 : undos2.toInt = a + 1 := by rw [h9, Int32.toInt_add, ha, o1, Int.bmod_eq_of_le (by omega) (by omega)]
    obtain ⟨c1, c2⟩ := cpA (mul44 ha (by omega) h3) (by omega) hcp2
    refine ⟨⟨Int32.toInt_inj.mp (by rw [t37, t9]; omega), e2, by rw [IV, t37]; omega, by rw [IV, t32]; omega, i3⟩, fun i hi => ?_, hx2⟩
    rw [t37] at hi
    rw [q32, q37]
    by_cases q : i = a
    · subst q
      rw [kp1 (x := x) (i := i) (by omega) (by omega), ucf_at]
      exact hN.row hF (fun j hj => c1 j hj)
    · rw [kp2 (x := x) (a := a) (i := i) (by omega) (by omega), ucf_ne (by omega)]
      have := hu i (by omega)
      rw [qk, qa] at this
      exact SR.row hF this (fun j hj => c2 _ (Or.inl (by omega)))
  · have a12 : a = 12 := by rw [y12, o12] at ha; omega
    subst a12
    obtain ⟨f3, ⟨z22, h22, z25, h25, f28, hcp2, z31, h31, rfl, rfl⟩, hs⟩ := note_L n0 U 0 0 (by decide) (by omega) (fun i hi => by omega) (fun i _ => rfl) hL
    have t22 : z22.toInt = (11 : Nat) := by rw [h22, Int32.toInt_sub, ha, o1, Int.bmod_eq_of_le (by omega) (by omega)]; rfl
    have t31 : undos2.toInt = 12 := by rw [h31, Int32.toInt_add, t22, o1, Int.bmod_eq_of_le (by omega) (by omega)]; rfl
    obtain ⟨c1, c2⟩ := cpA (mul44 t22 (by omega) h25) (by omega) hcp2
    refine ⟨⟨Int32.toInt_inj.mp (by rw [t37, t31]; omega), e2, by rw [IV, t37]; omega, by rw [IV, t32]; omega, i3⟩, fun i hi => ?_, hx2⟩
    rw [t37] at hi
    rw [q32, q37]
    by_cases q : i = 11
    · subst q
      rw [kp3 (x := x) (by omega), ucf_at]
      exact hN.row hF (fun j hj => c1 j hj)
    · rw [kp4 (x := x) (i := i) (by omega), ucf_ne (by omega)]
      have := hu (i + 1) (by omega)
      rw [qk, qa] at this
      refine SR.row hF this (fun j hj => ?_)
      show U2 (44 * i + j) = U (44 * (i + 1) + j)
      rw [c2 _ (Or.inl (by omega)), hs _ (by omega)]
      congr 1
      omega
