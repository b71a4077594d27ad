set_option maxRecDepth 100000
set_option maxHeartbeats 4000000
theorem qx_isFollowed {tp ndf qrf qmf qwf qpf qhnf qhtf qhjf qhmf qhbf qhsf qhcf ndg qrg qmg qwg qpg qhng qhtg qhjg qhmg qhbg qhsg qhcg F T : Nat → Int32} {nmf nmg : Nat → Int64} {le le2 : Int64} {fn fp n kd sta po va tk ta ndn qmd qtr qrn qmn qwn qpn qhnn qhtn qhjn qhmn qhbn qhsn qhcn fn2 fp2 kd2 sta2 po2 va2 tk2 ta2 ndk qrk qmk qwk qpk qmd2 qtr2 qhnk qhtk qhjk qhmk qhbk qhsk qhck r a : Int32} (hn : IV n 0 900) (ht : TpR tp T) (hs : XS T n a kd sta po va le) (h : R_x_isFollowedX fn fp n kd sta po va le tk ta tp nmf ndn ndf qmd qtr qrn qrf qmn qmf qwn qwf qpn qpf qhnn qhnf qhtn qhtf qhjn qhjf qhmn qhmf qhbn qhbf qhsn qhsf qhcn qhcf fn2 fp2 kd2 sta2 po2 va2 le2 tk2 ta2 nmg ndg ndk qrg qmg qwg qpg qrk qmk qwk qpk qmd2 qtr2 qhng qhtg qhjg qhmg qhbg qhsg qhcg qhnk qhtk qhjk qhmk qhbk qhsk qhck r) : (tkF T n a = 3 ∧ r = 1 ∧ fn2 = fn ∧ fp2 = fp ∧ XS T n (nx T n a) kd2 sta2 po2 va2 le2 ∧ tk2 = tk ∧ ta2 = ta ∧ nmg = nmf ∧ ndk = ndn ∧ ndg = ndf ∧ qmd2 = qmd ∧ qtr2 = qtr ∧ qrk = qrn ∧ qrg = qrf ∧ qmk = qmn ∧ qmg = qmf ∧ qwk = qwn ∧ qwg = qwf ∧ qpk = qpn ∧ qpg = qpf ∧ qhnk = qhnn ∧ qhng = qhnf ∧ qhtk = qhtn ∧ qhtg = qhtf ∧ qhjk = qhjn ∧ qhjg = qhjf ∧ qhmk = qhmn ∧ qhmg = qhmf ∧ qhbk = qhbn ∧ qhbg = qhbf ∧ qhsk = qhsn ∧ qhsg = qhsf ∧ qhck = qhcn ∧ qhcg = qhcf) ∨ (tkF T n a = 0 ∧ ((qpn = 0 ∨ qhmn = 0) ∧ r = 0 ∧ fn2 = 6 ∧ fp2 = a ∨ (qpn ≠ 0 ∧ qhmn ≠ 0) ∧ r = 0 ∧ fn2 = fn ∧ fp2 = fp ∧ tk2 = tk ∧ ta2 = ta ∧ nmg = nmf ∧ ndk = ndn ∧ ndg = ndf ∧ qmd2 = qmd ∧ qtr2 = qtr ∧ qrk = qrn ∧ qrg = qrf ∧ qmk = qmn ∧ qmg = qmf ∧ qwk = qwn ∧ qwg = qwf ∧ qpk = qpn ∧ qpg = qpf ∧ qhnk = qhnn ∧ qhng = qhnf ∧ qhtk = qhtn ∧ qhtg = qhtf ∧ qhjk = qhjn ∧ qhjg = qhjf ∧ qhmk = qhmn ∧ qhmg = qhmf ∧ qhbk = qhbn ∧ qhbg = qhbf ∧ qhsk = qhsn ∧ qhsg = qhsf ∧ qhck = qhcn ∧ qhcg = qhcf)) ∨ (tkF T n a ≠ 3 ∧ tkF T n a ≠ 0 ∧ r = 0 ∧ fn2 = 1 ∧ fp2 = a) := by
  unfold R_x_isFollowedX at h
  have sa := hs.1
  have e1 : kd = tkF T n a := hs.2.2.1
  have keep : ∀ {A : Prop}, A → A := fun h => h
  rcases h with ⟨h3, h⟩ | ⟨h3, h⟩
  · have q3 : ¬ tkF T n a = 3 := fun q => h3 (e1.trans q)
    rcases h with ⟨h0, h⟩ | ⟨h0, h⟩
    · have q0 : tkF T n a = 0 := e1.symm.trans h0
      refine Or.inr (Or.inl ⟨q0, ?_⟩)
      rcases h with ⟨hp, f1, p1, r1, ⟨b1, b2, b3⟩, h⟩ | ⟨hp, h⟩
      · exact Or.inl ⟨Or.inl hp, by rw [h.2.2.2.2.2.2.2.2.2.2.2.2.2.2.2.2.2.2.2.2.2.2.2.2.2.2.2.2.2.2.2.2.2.2.2.2, b3], by rw [h.1, b1], by rw [h.2.1, b2, sa]⟩
      · rcases h with ⟨hm, h⟩ | ⟨hm, f1, p1, r1, ⟨b1, b2, b3⟩, h⟩
        · exact Or.inr ⟨⟨hp, hm⟩, h.2.2.2.2.2.2.2.2.2.2.2.2.2.2.2.2.2.2.2.2.2.2.2.2.2.2.2.2.2.2.2.2.2.2.2.2, h.1, h.2.1, h.2.2.2.2.2.2.2.1, h.2.2.2.2.2.2.2.2.1, h.2.2.2.2.2.2.2.2.2.1, h.2.2.2.2.2.2.2.2.2.2.2.1, h.2.2.2.2.2.2.2.2.2.2.1, h.2.2.2.2.2.2.2.2.2.2.2.2.2.2.2.2.2.2.2.2.1, h.2.2.2.2.2.2.2.2.2.2.2.2.2.2.2.2.2.2.2.2.2.1, h.2.2.2.2.2.2.2.2.2.2.2.2.2.2.2.2.1, h.2.2.2.2.2.2.2.2.2.2.2.2.1, h.2.2.2.2.2.2.2.2.2.2.2.2.2.2.2.2.2.1, h.2.2.2.2.2.2.2.2.2.2.2.2.2.1, h.2.2.2.2.2.2.2.2.2.2.2.2.2.2.2.2.2.2.1, h.2.2.2.2.2.2.2.2.2.2.2.2.2.2.1, h.2.2.2.2.2.2.2.2.2.2.2.2.2.2.2.2.2.2.2.1, h.2.2.2.2.2.2.2.2.2.2.2.2.2.2.2.1, h.2.2.2.2.2.2.2.2.2.2.2.2.2.2.2.2.2.2.2.2.2.2.2.2.2.2.2.2.2.1, h.2.2.2.2.2.2.2.2.2.2.2.2.2.2.2.2.2.2.2.2.2.2.1, h.2.2.2.2.2.2.2.2.2.2.2.2.2.2.2.2.2.2.2.2.2.2.2.2.2.2.2.2.2.2.1, h.2.2.2.2.2.2.2.2.2.2.2.2.2.2.2.2.2.2.2.2.2.2.2.1, h.2.2.2.2.2.2.2.2.2.2.2.2.2.2.2.2.2.2.2.2.2.2.2.2.2.2.2.2.2.2.2.1, h.2.2.2.2.2.2.2.2.2.2.2.2.2.2.2.2.2.2.2.2.2.2.2.2.1, h.2.2.2.2.2.2.2.2.2.2.2.2.2.2.2.2.2.2.2.2.2.2.2.2.2.2.2.2.2.2.2.2.1, h.2.2.2.2.2.2.2.2.2.2.2.2.2.2.2.2.2.2.2.2.2.2.2.2.2.1, h.2.2.2.2.2.2.2.2.2.2.2.2.2.2.2.2.2.2.2.2.2.2.2.2.2.2.2.2.2.2.2.2.2.1, h.2.2.2.2.2.2.2.2.2.2.2.2.2.2.2.2.2.2.2.2.2.2.2.2.2.2.1, h.2.2.2.2.2.2.2.2.2.2.2.2.2.2.2.2.2.2.2.2.2.2.2.2.2.2.2.2.2.2.2.2.2.2.1, h.2.2.2.2.2.2.2.2.2.2.2.2.2.2.2.2.2.2.2.2.2.2.2.2.2.2.2.1, h.2.2.2.2.2.2.2.2.2.2.2.2.2.2.2.2.2.2.2.2.2.2.2.2.2.2.2.2.2.2.2.2.2.2.2.1, h.2.2.2.2.2.2.2.2.2.2.2.2.2.2.2.2.2.2.2.2.2.2.2.2.2.2.2.2.1⟩
        · exact Or.inl ⟨Or.inr hm, by rw [h.2.2.2.2.2.2.2.2.2.2.2.2.2.2.2.2.2.2.2.2.2.2.2.2.2.2.2.2.2.2.2.2.2.2.2.2, b3], by rw [h.1, b1], by rw [h.2.1, b2, sa]⟩
    · obtain ⟨f1, p1, r1, ⟨b1, b2, b3⟩, h⟩ := h
      exact Or.inr (Or.inr ⟨q3, fun q => h0 (e1.trans q), by rw [h.2.2.2.2.2.2.2.2.2.2.2.2.2.2.2.2.2.2.2.2.2.2.2.2.2.2.2.2.2.2.2.2.2.2.2.2, b3], by rw [h.1, b1], by rw [h.2.1, b2, sa]⟩)
  · obtain ⟨k1, s1, p1, v1, l1, hx, h⟩ := h
    have xs := x_next_at hn ht hs hx
    refine Or.inl ⟨e1.symm.trans h3, h.2.2.2.2.2.2.2.2.2.2.2.2.2.2.2.2.2.2.2.2.2.2.2.2.2.2.2.2.2.2.2.2.2.2.2.2, h.1, h.2.1, ?_, h.2.2.2.2.2.2.2.1, h.2.2.2.2.2.2.2.2.1, h.2.2.2.2.2.2.2.2.2.1, h.2.2.2.2.2.2.2.2.2.2.2.1, h.2.2.2.2.2.2.2.2.2.2.1, h.2.2.2.2.2.2.2.2.2.2.2.2.2.2.2.2.2.2.2.2.1, h.2.2.2.2.2.2.2.2.2.2.2.2.2.2.2.2.2.2.2.2.2.1, h.2.2.2.2.2.2.2.2.2.2.2.2.2.2.2.2.1, h.2.2.2.2.2.2.2.2.2.2.2.2.1, h.2.2.2.2.2.2.2.2.2.2.2.2.2.2.2.2.2.1, h.2.2.2.2.2.2.2.2.2.2.2.2.2.1, h.2.2.2.2.2.2.2.2.2.2.2.2.2.2.2.2.2.2.1, h.2.2.2.2.2.2.2.2.2.2.2.2.2.2.1, h.2.2.2.2.2.2.2.2.2.2.2.2.2.2.2.2.2.2.2.1, h.2.2.2.2.2.2.2.2.2.2.2.2.2.2.2.1, h.2.2.2.2.2.2.2.2.2.2.2.2.2.2.2.2.2.2.2.2.2.2.2.2.2.2.2.2.2.1, h.2.2.2.2.2.2.2.2.2.2.2.2.2.2.2.2.2.2.2.2.2.2.1, h.2.2.2.2.2.2.2.2.2.2.2.2.2.2.2.2.2.2.2.2.2.2.2.2.2.2.2.2.2.2.1, h.2.2.2.2.2.2.2.2.2.2.2.2.2.2.2.2.2.2.2.2.2.2.2.1, h.2.2.2.2.2.2.2.2.2.2.2.2.2.2.2.2.2.2.2.2.2.2.2.2.2.2.2.2.2.2.2.1, h.2.2.2.2.2.2.2.2.2.2.2.2.2.2.2.2.2.2.2.2.2.2.2.2.1, h.2.2.2.2.2.2.2.2.2.2.2.2.2.2.2.2.2.2.2.2.2.2.2.2.2.2.2.2.2.2.2.2.1, h.2.2.2.2.2.2.2.2.2.2.2.2.2.2.2.2.2.2.2.2.2.2.2.2.2.1, h.2.2.2.2.2.2.2.2.2.2.2.2.2.2.2.2.2.2.2.2.2.2.2.2.2.2.2.2.2.2.2.2.2.1, h.2.2.2.2.2.2.2.2.2.2.2.2.2.2.2.2.2.2.2.2.2.2.2.2.2.2.1, h.2.2.2.2.2.2.2.2.2.2.2.2.2.2.2.2.2.2.2.2.2.2.2.2.2.2.2.2.2.2.2.2.2.2.1, h.2.2.2.2.2.2.2.2.2.2.2.2.2.2.2.2.2.2.2.2.2.2.2.2.2.2.2.1, h.2.2.2.2.2.2.2.2.2.2.2.2.2.2.2.2.2.2.2.2.2.2.2.2.2.2.2.2.2.2.2.2.2.2.2.1, h.2.2.2.2.2.2.2.2.2.2.2.2.2.2.2.2.2.2.2.2.2.2.2.2.2.2.2.2.1⟩
    rw [h.2.2.1, h.2.2.2.1, h.2.2.2.2.1, h.2.2.2.2.2.1, h.2.2.2.2.2.2.1]
    exact xs
theorem HRel_no {F : Nat → Int32} {ndn qrn qmn qwn qpn qhnn qhtn qhjn qhmn qhbn qhsn qhcn : Int32} {nmf : Nat → Int64} {ndf qrf qmf qwf : Nat → Int32} (hH : HRel F ndn nmf ndf qrn qrf qmn qmf qwn qwf qpn qhnn qhtn qhjn qhmn qhbn qhsn qhcn) (h : F 15 = 0) : F 12 = 0 := by
  refine exA14 hH ?_
  clear hH
  intro zc1 zc2 zc3 zc4 zc5 zc6 zc7 zc8 zc9 zc10 zc11 zc12 zc13 g1 zc14
  clear zc1
  clear zc2
  clear zc3
  clear zc4
  clear zc5
  clear zc6
  clear zc7
  clear zc8
  clear zc9
  clear zc10
  clear zc11
  clear zc12
  clear zc13
  clear zc14
  exact (g1 h).2.2.2.2.2.2.1
def XR (ρ : Rs ((Nat → Int32) × Int32)) (fn2 fp2 : Int32) (H : (Nat → Int32) → Prop) : Prop := match ρ with
  | .inl e => fn2 = e.1 ∧ fp2 = e.2
  | .inr v => fn2 = 0 ∧ fp2 = 0 ∧ H v.1
theorem qx_read0 {T tp : Nat → Int32} {n : Int32} {fn2 fp2 kd2 sta2 po2 va2 : Int32} {le2 : Int64} {tk2 ta2 : Int32} {nmg : Nat → Int64} {ndg : Nat → Int32} {ndk : Int32} {qrg qmg qwg qpg : Nat → Int32} {qrk qmk qwk qpk qmd2 qtr2 : Int32} {qhng qhtg qhjg qhmg qhbg qhsg qhcg : Nat → Int32} {qhnk qhtk qhjk qhmk qhbk qhsk qhck : Int32} (hn : IV n 0 900) (ht : TpR tp T) : ∀ (f : Nat) (F : Nat → Int32) (a lines : Int32) (fn fp kd sta po va : Int32) (le : Int64) (tk ta : Int32) (nmf : Nat → Int64) (ndn : Int32) (ndf : Nat → Int32) (qmd qtr qrn : Int32) (qrf : Nat → Int32) (qmn : Int32) (qmf : Nat → Int32) (qwn : Int32) (qwf : Nat → Int32) (qpn : Int32) (qpf : Nat → Int32) (qhnn : Int32) (qhnf : Nat → Int32) (qhtn : Int32) (qhtf : Nat → Int32) (qhjn : Int32) (qhjf : Nat → Int32) (qhmn : Int32) (qhmf : Nat → Int32) (qhbn : Int32) (qhbf : Nat → Int32) (qhsn : Int32) (qhsf : Nat → Int32) (qhcn : Int32) (qhcf : Nat → Int32), HRel F ndn nmf ndf qrn qrf qmn qmf qwn qwf qpn qhnn qhtn qhjn qhmn qhbn qhsn qhcn ∧ HV F qrf qmf qwf qpf qhnf qhtf qhjf qhmf qhbf qhsf qhcf ∧ RV F → XS T n a kd sta po va le → lines.toInt ≤ a.toInt → lines.toInt ≤ n.toInt → 0 ≤ lines.toInt → fn = 0 → fp = 0 → R_x_readX_L0 n tp (fun (u_62 : Int32) (u_63 : Int32) (u_64 : Int32) (u_65 : Int32) (u_56 : Int32) (u_58 : Int32) (u_59 : Int64) (u_60 : Int32) (u_61 : Int32) (uf_40 : Nat → Int64) (uf_39 : Nat → Int32) (u_67 : Int32) (uf_50 : Nat → Int32) (uf_48 : Nat → Int32) (uf_51 : Nat → Int32) (uf_49 : Nat → Int32) (u_77 : Int32) (u_75 : Int32) (u_80 : Int32) (u_76 : Int32) (u_78 : Int32) (u_79 : Int32) (uf_45 : Nat → Int32) (uf_47 : Nat → Int32) (uf_43 : Nat → Int32) (uf_44 : Nat → Int32) (uf_41 : Nat → Int32) (uf_46 : Nat → Int32) (uf_42 : Nat → Int32) (u_72 : Int32) (u_74 : Int32) (u_70 : Int32) (u_71 : Int32) (u_68 : Int32) (u_73 : Int32) (u_69 : Int32) => fn2 = u_62 ∧ fp2 = u_63 ∧ kd2 = u_64 ∧ sta2 = u_65 ∧ po2 = u_56 ∧ va2 = u_58 ∧ le2 = u_59 ∧ tk2 = u_60 ∧ ta2 = u_61 ∧ nmg = uf_40 ∧ ndg = uf_39 ∧ ndk = u_67 ∧ qrg = uf_50 ∧ qmg = uf_48 ∧ qwg = uf_51 ∧ qpg = uf_49 ∧ qrk = u_77 ∧ qmk = u_75 ∧ qwk = u_80 ∧ qpk = u_76 ∧ qmd2 = u_78 ∧ qtr2 = u_79 ∧ qhng = uf_45 ∧ qhtg = uf_47 ∧ qhjg = uf_43 ∧ qhmg = uf_44 ∧ qhbg = uf_41 ∧ qhsg = uf_46 ∧ qhcg = uf_42 ∧ qhnk = u_72 ∧ qhtk = u_74 ∧ qhjk = u_70 ∧ qhmk = u_71 ∧ qhbk = u_68 ∧ qhsk = u_73 ∧ qhck = u_69) (fun (u_62 : Int32) (u_63 : Int32) (u_64 : Int32) (u_65 : Int32) (u_56 : Int32) (u_58 : Int32) (u_59 : Int64) (u_60 : Int32) (u_61 : Int32) (uf_40 : Nat → Int64) (uf_39 : Nat → Int32) (u_67 : Int32) (uf_50 : Nat → Int32) (uf_48 : Nat → Int32) (uf_51 : Nat → Int32) (uf_49 : Nat → Int32) (u_77 : Int32) (u_75 : Int32) (u_80 : Int32) (u_76 : Int32) (u_78 : Int32) (u_79 : Int32) (uf_45 : Nat → Int32) (uf_47 : Nat → Int32) (uf_43 : Nat → Int32) (uf_44 : Nat → Int32) (uf_41 : Nat → Int32) (uf_46 : Nat → Int32) (uf_42 : Nat → Int32) (u_72 : Int32) (u_74 : Int32) (u_70 : Int32) (u_71 : Int32) (u_68 : Int32) (u_73 : Int32) (u_69 : Int32) => fn2 = u_62 ∧ fp2 = u_63 ∧ kd2 = u_64 ∧ sta2 = u_65 ∧ po2 = u_56 ∧ va2 = u_58 ∧ le2 = u_59 ∧ tk2 = u_60 ∧ ta2 = u_61 ∧ nmg = uf_40 ∧ ndg = uf_39 ∧ ndk = u_67 ∧ qrg = uf_50 ∧ qmg = uf_48 ∧ qwg = uf_51 ∧ qpg = uf_49 ∧ qrk = u_77 ∧ qmk = u_75 ∧ qwk = u_80 ∧ qpk = u_76 ∧ qmd2 = u_78 ∧ qtr2 = u_79 ∧ qhng = uf_45 ∧ qhtg = uf_47 ∧ qhjg = uf_43 ∧ qhmg = uf_44 ∧ qhbg = uf_41 ∧ qhsg = uf_46 ∧ qhcg = uf_42 ∧ qhnk = u_72 ∧ qhtk = u_74 ∧ qhjk = u_70 ∧ qhmk = u_71 ∧ qhbk = u_68 ∧ qhsk = u_73 ∧ qhck = u_69) f ndf nmf qhbf qhcf qhjf qhmf qhnf qhsf qhtf qmf qpf qrf qwf 1 lines po va le tk ta fn fp kd sta ndn qhbn qhcn qhjn qhmn qhnn qhsn qhtn qmn qpn qrn qmd qtr qwn → ∃ (k : Nat) (ρ : Rs ((Nat → Int32) × Int32)), TxR T n k F a ρ ∧ XR ρ fn2 fp2 (fun G => HRel G ndk nmg ndg qrk qrg qmk qmg qwk qwg qpk qhnk qhtk qhjk qhmk qhbk qhsk qhck ∧ HV G qrg qmg qwg qpg qhng qhtg qhjg qhmg qhbg qhsg qhcg ∧ RV G) := by
  intro f
  induction f with
  | zero => intros; rename_i h; exact h.elim
  | succ f ih =>
    intro F a lines fn fp kd sta po va le tk ta nmf ndn ndf qmd qtr qrn qrf qmn qmf qwn qwf qpn qpf qhnn qhnf qhtn qhtf qhjn qhjf qhmn qhmf qhbn qhbf qhsn qhsf qhcn qhcf hHV hs hl1 hl2 hl0 hf0 hp0 h
    obtain ⟨hH, hV, hRV⟩ := hHV
    unfold R_x_readX_L0 at h
    rcases h with ⟨q, -⟩ | ⟨-, h⟩
    · exact absurd q one0
    rcases h with ⟨q, -⟩ | ⟨-, h⟩
    · rw [lt_I] at q; omega
    refine exE37 h ?_
    clear h
    intro y0 y1 y2 y3 y4 y5 y6 y7 y8 y9 y10 y11 y12 y13 y14 y15 y16 y17 y18 y19 y20 y21 y22 y23 y24 y25 y26 y27 y28 y29 y30 y31 y32 y33 y34 y35 y36 hl h
    have m1 := qx_isLine (a := a) hn ht hH hV hs hl
    rcases m1 with m1 | ⟨b9, e9, x1, x2, x3, xs, n3, n0⟩
    case inr =>
      replace h := pk1 h x1
      refine exE37 h ?_
      clear h
      intro w0 w1 w2 w3 w4 w5 w6 w7 w8 w9 w10 w11 w12 w13 w14 w15 w16 w17 w18 w19 w20 w21 w22 w23 w24 w25 w26 w27 w28 w29 w30 w31 w32 w33 w34 w35 w36 hl2 h
      have m2 := qx_isFollowed (F := F) (a := b9) hn ht xs hl2
      rcases m2 with ⟨g1, -⟩ | ⟨g1, -⟩ | ⟨-, -, g1, g2, g3⟩
      · exact absurd g1 n3
      · exact absurd g1 n0
      replace h := pf1 h g1
      obtain ⟨z, hz, h⟩ := h
      cases f with
      | zero => exact h.elim
      | succ f =>
        unfold R_x_readX_L0 at h
        rcases h with ⟨-, h⟩ | ⟨q, -⟩
        case inr => exact absurd rfl q
        refine ⟨1, .inl (1, b9), ⟨hH.2.2.1, Or.inl ⟨(1, b9), e9, rfl⟩⟩, ?_, ?_⟩
        · show fn2 = 1; rw [h.1, g2]
        · show fp2 = b9; rw [h.2.1, g3]
    cases hc : lineS F T n a with
    | inl e =>
      rw [hc] at m1
      refine exA2 (XF_l m1) ?_
      intro x1 x2 x3
      replace h := pf1 h x1
      obtain ⟨z, hz, h⟩ := h
      cases f with
      | zero => exact h.elim
      | succ f =>
        unfold R_x_readX_L0 at h
        rcases h with ⟨-, h⟩ | ⟨q, -⟩
        case inr => exact absurd rfl q
        refine ⟨1, .inl e, ⟨hH.2.2.1, Or.inl ⟨e, hc, rfl⟩⟩, ?_, ?_⟩
        · rw [h.1, x2]
        · rw [h.2.1, x3]
    | inr v =>
      rw [hc] at m1
      refine exA4 (XF_r m1) ?_
      intro x1 x2 x3 xs H2
      have up := up_line hn hs.2.1 v hc
      have hRV2 := RV_line hH.2.2.1 hH.2.2.2.1 hH.2.2.2.2.2.2.2.2.2.2.1 hH.2.2.2.2.2.2.2.2.2.2.2.1 hRV hc
      replace h := pk1 h x1
      refine exE37 h ?_
      clear h
      intro w0 w1 w2 w3 w4 w5 w6 w7 w8 w9 w10 w11 w12 w13 w14 w15 w16 w17 w18 w19 w20 w21 w22 w23 w24 w25 w26 w27 w28 w29 w30 w31 w32 w33 w34 w35 w36 hl2 h
      have m2 := qx_isFollowed (F := F) (a := v.2) hn ht xs hl2
      rcases m2 with ⟨g1, g2, g3, g4, xs2, k0, k1, k2, k3, k4, k5, k6, k7, k8, k9, k10, k11, k12, k13, k14, k15, k16, k17, k18, k19, k20, k21, k22, k23, k24, k25, k26, k27, k28⟩ | ⟨g1, ⟨g5, g2, g3, g4⟩ | ⟨g5, g2, g3, g4, k0, k1, k2, k3, k4, k5, k6, k7, k8, k9, k10, k11, k12, k13, k14, k15, k16, k17, k18, k19, k20, k21, k22, k23, k24, k25, k26, k27, k28⟩⟩ | ⟨g0, g1, g2, g3, g4⟩
      · have semi := nx_semi hn up.2 g1
        replace h := pk1 h g2
        obtain ⟨z, hz, h⟩ := h
        rw [ofI1] at hz
        have ez := inc1 (u := lines) (z := z) (a := 0) (b := 900) ⟨by omega, by have := hn.2; omega⟩ (by omega) (by omega) hz.symm
        subst k0 k1 k2 k3 k4 k5 k6 k7 k8 k9 k10 k11 k12 k13 k14 k15 k16 k17 k18 k19 k20 k21 k22 k23 k24 k25 k26 k27 k28
        obtain ⟨k, ρ, q1, q2⟩ := ih v.1 (nx T n v.2) z _ _ _ _ _ _ _ _ _ _ _ _ _ _ _ _ _ _ _ _ _ _ _ _ _ _ _ _ _ _ _ _ _ _ _ _ ⟨H2.1, H2.2, hRV2⟩ xs2 (by omega) (by omega) (by omega) (by rw [g3, x2, hf0]) (by rw [g4, x3, hp0]) h
        exact ⟨k + 1, ρ, ⟨hH.2.2.1, Or.inr ⟨v, hc, Or.inl ⟨g1, q1⟩⟩⟩, q2⟩
      · replace h := pf1 h g2
        obtain ⟨z, hz, h⟩ := h
        cases f with
        | zero => exact h.elim
        | succ f =>
          unfold R_x_readX_L0 at h
          rcases h with ⟨-, h⟩ | ⟨q, -⟩
          case inr => exact absurd rfl q
          have e12 := H2.1.2.1.2.2.2.2.2.2.1
          have e11 := H2.1.2.1.2.2.2.2.2.1
          rw [e12, e11] at g5
          refine ⟨1, .inl (6, v.2), ⟨hH.2.2.1, Or.inr ⟨v, hc, Or.inr (Or.inl ⟨g1, Or.inl ⟨g5, rfl⟩⟩)⟩⟩, ?_, ?_⟩
          · show fn2 = 6; rw [h.1, g3]
          · show fp2 = v.2; rw [h.2.1, g4]
      · replace h := pf1 h g2
        obtain ⟨z, hz, h⟩ := h
        cases f with
        | zero => exact h.elim
        | succ f =>
          unfold R_x_readX_L0 at h
          rcases h with ⟨-, h⟩ | ⟨q, -⟩
          case inr => exact absurd rfl q
          have e12 := H2.1.2.1.2.2.2.2.2.2.1
          have e11 := H2.1.2.1.2.2.2.2.2.1
          rw [e12, e11] at g5
          refine ⟨1, .inr v, ⟨hH.2.2.1, Or.inr ⟨v, hc, Or.inr (Or.inl ⟨g1, Or.inr ⟨⟨fun w => g5.1 (HRel_no H2.1 w), g5⟩, rfl⟩⟩)⟩⟩, ?_, ?_, ?_⟩
          · rw [h.1, g3, x2, hf0]
          · rw [h.2.1, g4, x3, hp0]
          · show HRel v.1 ndk nmg ndg qrk qrg qmk qmg qwk qwg qpk qhnk qhtk qhjk qhmk qhbk qhsk qhck ∧ HV v.1 qrg qmg qwg qpg qhng qhtg qhjg qhmg qhbg qhsg qhcg ∧ RV v.1
            subst k0 k1 k2 k3 k4 k5 k6 k7 k8 k9 k10 k11 k12 k13 k14 k15 k16 k17 k18 k19 k20 k21 k22 k23 k24 k25 k26 k27 k28
            rw [h.2.2.2.2.2.2.2.2.2.2.2.1, h.2.2.2.2.2.2.2.2.2.1, h.2.2.2.2.2.2.2.2.2.2.1, h.2.2.2.2.2.2.2.2.2.2.2.2.2.2.2.2.1, h.2.2.2.2.2.2.2.2.2.2.2.2.1, h.2.2.2.2.2.2.2.2.2.2.2.2.2.2.2.2.2.1, h.2.2.2.2.2.2.2.2.2.2.2.2.2.1, h.2.2.2.2.2.2.2.2.2.2.2.2.2.2.2.2.2.2.1, h.2.2.2.2.2.2.2.2.2.2.2.2.2.2.1, h.2.2.2.2.2.2.2.2.2.2.2.2.2.2.2.2.2.2.2.1, h.2.2.2.2.2.2.2.2.2.2.2.2.2.2.2.2.2.2.2.2.2.2.2.2.2.2.2.2.2.1, h.2.2.2.2.2.2.2.2.2.2.2.2.2.2.2.2.2.2.2.2.2.2.2.2.2.2.2.2.2.2.1, h.2.2.2.2.2.2.2.2.2.2.2.2.2.2.2.2.2.2.2.2.2.2.2.2.2.2.2.2.2.2.2.1, h.2.2.2.2.2.2.2.2.2.2.2.2.2.2.2.2.2.2.2.2.2.2.2.2.2.2.2.2.2.2.2.2.1, h.2.2.2.2.2.2.2.2.2.2.2.2.2.2.2.2.2.2.2.2.2.2.2.2.2.2.2.2.2.2.2.2.2.1, h.2.2.2.2.2.2.2.2.2.2.2.2.2.2.2.2.2.2.2.2.2.2.2.2.2.2.2.2.2.2.2.2.2.2.1, h.2.2.2.2.2.2.2.2.2.2.2.2.2.2.2.2.2.2.2.2.2.2.2.2.2.2.2.2.2.2.2.2.2.2.2, h.2.2.2.2.2.2.2.2.2.2.2.2.2.2.2.1, h.2.2.2.2.2.2.2.2.2.2.2.2.2.2.2.2.2.2.2.2.2.2.1, h.2.2.2.2.2.2.2.2.2.2.2.2.2.2.2.2.2.2.2.2.2.2.2.1, h.2.2.2.2.2.2.2.2.2.2.2.2.2.2.2.2.2.2.2.2.2.2.2.2.1, h.2.2.2.2.2.2.2.2.2.2.2.2.2.2.2.2.2.2.2.2.2.2.2.2.2.1, h.2.2.2.2.2.2.2.2.2.2.2.2.2.2.2.2.2.2.2.2.2.2.2.2.2.2.1, h.2.2.2.2.2.2.2.2.2.2.2.2.2.2.2.2.2.2.2.2.2.2.2.2.2.2.2.1, h.2.2.2.2.2.2.2.2.2.2.2.2.2.2.2.2.2.2.2.2.2.2.2.2.2.2.2.2.1]
            exact ⟨H2.1, H2.2, hRV2⟩
      · replace h := pf1 h g2
        obtain ⟨z, hz, h⟩ := h
        cases f with
        | zero => exact h.elim
        | succ f =>
          unfold R_x_readX_L0 at h
          rcases h with ⟨-, h⟩ | ⟨q, -⟩
          case inr => exact absurd rfl q
          refine ⟨1, .inl (1, v.2), ⟨hH.2.2.1, Or.inr ⟨v, hc, Or.inr (Or.inr ⟨g0, g1, rfl⟩)⟩⟩, ?_, ?_⟩
          · show fn2 = 1; rw [h.1, g3]
          · show fp2 = v.2; rw [h.2.1, g4]

theorem NRel_0 {F : Nat → Int32} {nmf : Nat → Int64} {ndf : Nat → Int32} (hF : ∀ i : Nat, i < 311 → F i = 0) : NRel F nmf ndf 0 := by
  refine ⟨⟨by decide, by decide⟩, fun i hi => ?_, fun j hj h => ?_, fun i i' hi _ _ => ?_⟩
  · rw [zI] at hi; omega
  · rw [hF _ (by omega), zI] at h; omega
  · rw [zI] at hi; omega
theorem HRel_0 {F : Nat → Int32} {nmf : Nat → Int64} {ndf qrf qmf qwf : Nat → Int32} (hF : ∀ i : Nat, i < 311 → F i = 0) : HRel F 0 nmf ndf 0 qrf 0 qmf 0 qwf 0 0 0 0 0 0 0 0 := by
  have z := fun i h => hF i h
  have I : ∀ (i : Nat) (b : Int), i < 311 → 0 ≤ b → IV (F i) 0 b := fun i b h hb => by rw [hF i h, IV, zI]; omega
  refine ⟨⟨(hF 15 (by first | decide | omega)).symm, Or.inl (hF 15 (by first | decide | omega))⟩, ⟨(hF 6 (by first | decide | omega)).symm, (hF 7 (by first | decide | omega)).symm, (hF 8 (by first | decide | omega)).symm, (hF 9 (by first | decide | omega)).symm, (hF 10 (by first | decide | omega)).symm, (hF 11 (by first | decide | omega)).symm, (hF 12 (by first | decide | omega)).symm, (hF 13 (by first | decide | omega)).symm, (hF 14 (by first | decide | omega)).symm⟩, ⟨I 6 8 (by first | decide | omega) (by first | decide | omega), I 7 4 (by first | decide | omega) (by first | decide | omega), I 8 12 (by first | decide | omega) (by first | decide | omega), I 9 8 (by first | decide | omega) (by first | decide | omega), I 10 6 (by first | decide | omega) (by first | decide | omega), I 11 4 (by first | decide | omega) (by first | decide | omega), I 13 6 (by first | decide | omega) (by first | decide | omega), I 14 6 (by first | decide | omega) (by first | decide | omega)⟩, I 12 8 (by first | decide | omega) (by first | decide | omega), Or.inl ⟨rfl, hF 134 (by first | decide | omega)⟩, ?_, ?_, ?_, NRel_0 hF, ?_, ?_, ?_, ?_, fun _ => ⟨hF 6 (by first | decide | omega), hF 7 (by first | decide | omega), hF 8 (by first | decide | omega), hF 9 (by first | decide | omega), hF 10 (by first | decide | omega), hF 11 (by first | decide | omega), hF 12 (by first | decide | omega), hF 13 (by first | decide | omega), hF 14 (by first | decide | omega), hF 134 (by first | decide | omega)⟩, ?_⟩
  · intro k hk; rw [hF 6 (by first | decide | omega), zI] at hk; omega
  · intro k hk; rw [hF 8 (by first | decide | omega), zI] at hk; omega
  · intro k hk; rw [hF 10 (by first | decide | omega), zI] at hk; omega
  · rw [hF 6 (by first | decide | omega), hF 7 (by first | decide | omega), hF 11 (by first | decide | omega), zI]; rfl
  · intro j hj _; rw [hF _ (by omega), zI]; omega
  · intro j hj _; rw [hF _ (by omega), zI]; omega
  · intro j hj _; rw [hF _ (by omega), zI]; omega
  · intro h; rw [hF 13 (by first | decide | omega), zI] at h; omega
theorem HV_0 {F qrf qmf qwf qpf qhnf qhtf qhjf qhmf qhbf qhsf qhcf : Nat → Int32} (hF : ∀ i : Nat, i < 311 → F i = 0) : HV F qrf qmf qwf qpf qhnf qhtf qhjf qhmf qhbf qhsf qhcf := ⟨TV_nil (hF 6 (by first | decide | omega)), TV_nil (hF 8 (by first | decide | omega)), TV_nil (hF 10 (by first | decide | omega)), fun k hk => by rw [hF 12 (by first | decide | omega), zI] at hk; omega, fun q => absurd (hF 15 (by first | decide | omega)) q, TV_nil (hF 7 (by first | decide | omega)), TV_nil (hF 9 (by first | decide | omega)), fun k hk => by rw [hF 11 (by first | decide | omega), zI] at hk; omega, fun q => by rw [hF 134 (by first | decide | omega), zI] at q; exact absurd q (by decide), TV_nil (hF 13 (by first | decide | omega)), TV_nil (hF 14 (by first | decide | omega))⟩
theorem RV_0 {F : Nat → Int32} (hF : ∀ i : Nat, i < 311 → F i = 0) : RV F := ⟨fun k hk => by rw [hF 8 (by first | decide | omega), zI] at hk; omega, fun k hk => by rw [hF 8 (by first | decide | omega), zI] at hk; omega, fun k hk => by rw [hF 9 (by first | decide | omega), zI] at hk; omega, fun k hk => by rw [hF 10 (by first | decide | omega), zI] at hk; omega, fun k hk => by rw [hF 12 (by first | decide | omega), zI] at hk; omega, fun k hk => by rw [hF 14 (by first | decide | omega), zI] at hk; omega, fun k hk => by rw [hF 11 (by first | decide | omega), zI] at hk; omega⟩
theorem qx_read {T : Nat → Int32} {n tk ta : Int32} {tp : Nat → Int32} {nmf : Nat → Int64} {ndf qrf qmf qwf qpf qhnf qhtf qhjf qhmf qhbf qhsf qhcf : Nat → Int32} {fn2 fp2 kd2 sta2 po2 va2 : Int32} {le2 : Int64} {tk2 ta2 : Int32} {nmg : Nat → Int64} {ndg : Nat → Int32} {ndk : Int32} {qrg qmg qwg qpg : Nat → Int32} {qrk qmk qwk qpk qmd2 qtr2 : Int32} {qhng qhtg qhjg qhmg qhbg qhsg qhcg : Nat → Int32} {qhnk qhtk qhjk qhmk qhbk qhsk qhck : Int32} {F0 : Nat → Int32} (hn : IV n 0 900) (ht : TpR tp T) (hF : ∀ i : Nat, i < 311 → F0 i = 0) (h : R_x_readX n tk ta tp nmf ndf qrf qmf qwf qpf qhnf qhtf qhjf qhmf qhbf qhsf qhcf fn2 fp2 kd2 sta2 po2 va2 le2 tk2 ta2 nmg ndg ndk qrg qmg qwg qpg qrk qmk qwk qpk qmd2 qtr2 qhng qhtg qhjg qhmg qhbg qhsg qhcg qhnk qhtk qhjk qhmk qhbk qhsk qhck) : ∃ (k : Nat) (ρ : Rs ((Nat → Int32) × Int32)), TxR T n k F0 (rn T n 5 0) ρ ∧ XR ρ fn2 fp2 (fun G => HRel G ndk nmg ndg qrk qrg qmk qmg qwk qwg qpk qhnk qhtk qhjk qhmk qhbk qhsk qhck ∧ HV G qrg qmg qwg qpg qhng qhtg qhjg qhmg qhbg qhsg qhcg ∧ RV G) := by
  unfold R_x_readX at h
  refine exE24 h ?_
  clear h
  intro y0 y1 y2 y3 y4 y5 y6 y7 y8 y9 y10 y11 y12 y13 y14 y15 y16 y17 y18 y19 y20 y21 y22 y23 hcl h
  refine exE5 h ?_
  clear h
  intro k1 s1 p1 v1 l1 hx h
  obtain ⟨f, h⟩ := h
  unfold R_h_clearX R_s_clearX at hcl
  obtain ⟨z0, z1, z2, z3, z4, z5, z6, z7, z8, z9, ⟨c0, c1, c2, c3, c4, c5, c6, c7, c8, c9⟩, e0, e1, e2, e3, e4, e5, e6, e7, e8, e9, e10, e11, e12, e13, e14, e15, e16, e17, e18, e19, e20, e21, e22, e23⟩ := hcl
  subst c0 c1 c2 c3 c4 c5 c6 c7 c8 c9
  subst e0 e1 e2 e3 e4 e5 e6 e7 e8 e9 e10 e11 e12 e13 e14 e15 e16 e17 e18 e19 e20 e21 e22 e23
  obtain ⟨t1, t2⟩ := x_next_spec hn ht ⟨by decide, by decide⟩ hx
  have i0 : IV (rn T n 5 0) 0 900 := ⟨by have := rn_ge (T := T) (k := 5) (u := 0) hn (by decide) ⟨by decide, by decide⟩; rw [zI] at this; omega, (rn_ge (T := T) (k := 5) (u := 0) hn (by decide) ⟨by decide, by decide⟩).2⟩
  exact qx_read0 hn ht f F0 (rn T n 5 0) 0 _ _ _ _ _ _ _ _ _ _ _ _ _ _ _ _ _ _ _ _ _ _ _ _ _ _ _ _ _ _ _ _ _ _ _ _ ⟨HRel_0 hF, HV_0 hF, RV_0 hF⟩ ⟨t1, i0, t2⟩ (by rw [zI]; exact i0.1) (by rw [zI]; exact hn.1) (by decide) rfl rfl h
