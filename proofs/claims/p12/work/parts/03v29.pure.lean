set_option maxRecDepth 100000
set_option maxHeartbeats 4000000
/-- what is told and no act changes -/
def TO (F : Nat → Int32) (yhnf : Nat → Int32) (yhtn : Int32) (yhtf : Nat → Int32) (yhjn : Int32) (yhjf : Nat → Int32) (yhmn : Int32) (yhmf : Nat → Int32) (yhbn : Int32) (yhbf : Nat → Int32) (yhsn : Int32) (yhsf : Nat → Int32) (yhcn : Int32) (yhcf : Nat → Int32) : Prop :=
  (yhtn = F 7 ∧ yhjn = F 9 ∧ yhmn = F 11 ∧ yhsn = F 13 ∧ yhcn = F 14) ∧ ((yhbn = 0 ∧ F 134 = 0) ∨ (yhbn = 1 ∧ 0 < (F 134).toInt)) ∧ (∀ j : Nat, j < 6 → yhnf j = F j) ∧ TV F yhtf 7 40 1 ∧ TV F yhjf 9 80 2 ∧
  (∀ k : Nat, (k : Int) < (F 11).toInt → yhmf (3 * k) = F (114 + 3 * k) ∧ yhmf (3 * k + 2) = F (114 + 3 * k + 2) ∧ (F (114 + 3 * k) = 3 → yhmf (3 * k + 1) = F (114 + 3 * k + 1))) ∧
  (0 < (F 134).toInt → ∀ j : Nat, j < 3 → yhbf j = F (134 + j)) ∧ TV F yhsf 13 137 3 ∧ TV F yhcf 14 155 2
/-- the State that a text tells -/
def SG (G : Nat → Int32) (zrn zmn zwn zpn zmd ztr : Int32) (zrf zmf zwf zpf : Nat → Int32) : Prop :=
  (zrn = G 6 ∧ zmn = G 8 ∧ zwn = G 10 ∧ zpn = G 12 ∧ zmd = 0 ∧ ztr = 0) ∧ TV G zrf 6 16 3 ∧ TV G zmf 8 44 3 ∧ TV G zwf 10 96 3 ∧ (∀ k : Nat, (k : Int) < (G 12).toInt → zpf (2 * k) = G (126 + k) ∧ zpf (2 * k + 1) = G 2)
theorem cp_t {f g x : Nat → Int32} {n : Int32} {m : Nat} (hn : n.toInt = m) (e : x = va_cpy f g (0 : Int32).toNatClampNeg (0 : Int32).toNatClampNeg n.toNatClampNeg) : ∀ i : Nat, i < m → x i = f i := fun i hi => by
  rw [e, cpy0 (by omega)]
theorem TV_cpy {F f g : Nat → Int32} {c b w cap : Nat} (h : TV F f c b w) (hcap : (F c).toInt ≤ cap) (hg : ∀ i : Nat, i < w * cap → g i = f i) : TV F g c b w := by
  intro k j hk hj
  have h1 : k + 1 ≤ cap := by omega
  have h2 := Nat.mul_le_mul_left w h1
  rw [Nat.mul_add, Nat.mul_one] at h2
  rw [hg _ (by omega)]
  exact h k j hk hj
theorem SG.copy {G : Nat → Int32} {xrf xmf xwf xpf : Nat → Int32} {ymd ytr yrn ymn ywn ypn : Int32} {yrf ymf ywf ypf xrg xmg xwg xpg : Nat → Int32} {xrk xmk xwk xpk xmd2 xtr2 : Int32} (hB : FIv G) (h12 : IV (G 12) 0 8) (h : SG G yrn ymn ywn ypn ymd ytr yrf ymf ywf ypf) (hc : R_s_copyFromX xrf xmf xwf xpf ymd ytr yrn yrf ymn ymf ywn ywf ypn ypf xrg xmg xwg xpg xrk xmk xwk xpk xmd2 xtr2) : SG G xrk xmk xwk xpk xmd2 xtr2 xrg xmg xwg xpg := by
  obtain ⟨⟨a1, a2, a3, a4, a5, a6⟩, h1, h2, h3, h4⟩ := h
  obtain ⟨⟨-, b6⟩, ⟨-, b7⟩, ⟨-, b8⟩, ⟨-, b9⟩, ⟨-, b10⟩, ⟨-, b11⟩, ⟨-, b13⟩, ⟨-, b14⟩⟩ := hB
  obtain ⟨-, b12⟩ := h12
  unfold R_s_copyFromX R_t_copyFrom8_3X R_t_copyFrom12_3X R_t_copyFrom6_3X R_t_copyFrom8_2X at hc
  obtain ⟨g1, k1, ⟨e1, e2⟩, g2, k2, ⟨e3, e4⟩, g3, k3, ⟨e5, e6⟩, g4, k4, ⟨e7, e8⟩, rfl, rfl, rfl, rfl, rfl, rfl, rfl, rfl, rfl, rfl⟩ := hc
  refine ⟨⟨e2.trans a1, e4.trans a2, e6.trans a3, e8.trans a4, a5, a6⟩, TV_cpy (cap := 8) h1 (by omega) (fun i hi => cp_t (m := 24) (by decide) e1 i (by omega)), TV_cpy (cap := 12) h2 (by omega) (fun i hi => cp_t (m := 36) (by decide) e3 i (by omega)), TV_cpy (cap := 6) h3 (by omega) (fun i hi => cp_t (m := 18) (by decide) e5 i (by omega)), fun k hk => ?_⟩
  have q := cp_t (m := 16) (by decide) e7
  rw [q _ (by omega), q _ (by omega)]
  exact h4 k hk
theorem hc_all {xrf xmf xwf xpf xhnf xhtf xhjf xhmf xhbf xhsf xhcf : Nat → Int32} {ymd ytr yrn : Int32} {yrf : Nat → Int32} {ymn : Int32} {ymf : Nat → Int32} {ywn : Int32} {ywf : Nat → Int32} {ypn : Int32} {ypf : Nat → Int32} {yhnn : Int32} {yhnf : Nat → Int32} {yhtn : Int32} {yhtf : Nat → Int32} {yhjn : Int32} {yhjf : Nat → Int32} {yhmn : Int32} {yhmf : Nat → Int32} {yhbn : Int32} {yhbf : Nat → Int32} {yhsn : Int32} {yhsf : Nat → Int32} {yhcn : Int32} {yhcf xrg xmg xwg xpg : Nat → Int32} {xrk xmk xwk xpk xmd2 xtr2 : Int32} {xhng xhtg xhjg xhmg xhbg xhsg xhcg : Nat → Int32} {xhnk xhtk xhjk xhmk xhbk xhsk xhck : Int32} (h : R_h_copyFromX xrf xmf xwf xpf xhnf xhtf xhjf xhmf xhbf xhsf xhcf ymd ytr yrn yrf ymn ymf ywn ywf ypn ypf yhnn yhnf yhtn yhtf yhjn yhjf yhmn yhmf yhbn yhbf yhsn yhsf yhcn yhcf xrg xmg xwg xpg xrk xmk xwk xpk xmd2 xtr2 xhng xhtg xhjg xhmg xhbg xhsg xhcg xhnk xhtk xhjk xhmk xhbk xhsk xhck) : R_s_copyFromX xrf xmf xwf xpf ymd ytr yrn yrf ymn ymf ywn ywf ypn ypf xrg xmg xwg xpg xrk xmk xwk xpk xmd2 xtr2 ∧ R_t_copyFrom1_6X xhnf yhnn yhnf xhng xhnk ∧ R_t_copyFrom4_1X xhtf yhtn yhtf xhtg xhtk ∧ R_t_copyFrom8_2X xhjf yhjn yhjf xhjg xhjk ∧ R_t_copyFrom4_3X xhmf yhmn yhmf xhmg xhmk ∧ R_t_copyFrom1_3X xhbf yhbn yhbf xhbg xhbk ∧ R_t_copyFrom6_3X xhsf yhsn yhsf xhsg xhsk ∧ R_t_copyFrom6_2X xhcf yhcn yhcf xhcg xhck := by
  unfold R_h_copyFromX at h
  refine exL10 h ?_
  clear h
  intro xrg_1 xmg_2 xwg_3 xpg_4 xrk_5 xmk_6 xwk_7 xpk_8 xmd2_9 xtr2_10 h
  obtain ⟨hs, h⟩ := h
  refine Exists.elim h ?_
  clear h
  intro h0g_13 h
  refine Exists.elim h ?_
  clear h
  intro h0k_14 h
  obtain ⟨tn, h⟩ := h
  refine Exists.elim h ?_
  clear h
  intro h0g_17 h
  refine Exists.elim h ?_
  clear h
  intro h0k_18 h
  obtain ⟨tt, h⟩ := h
  refine Exists.elim h ?_
  clear h
  intro h0g_21 h
  refine Exists.elim h ?_
  clear h
  intro h0k_22 h
  obtain ⟨tj, h⟩ := h
  refine Exists.elim h ?_
  clear h
  intro h0g_25 h
  refine Exists.elim h ?_
  clear h
  intro h0k_26 h
  obtain ⟨tm, h⟩ := h
  refine Exists.elim h ?_
  clear h
  intro h0g_29 h
  refine Exists.elim h ?_
  clear h
  intro h0k_30 h
  obtain ⟨tb, h⟩ := h
  refine Exists.elim h ?_
  clear h
  intro h0g_33 h
  refine Exists.elim h ?_
  clear h
  intro h0k_34 h
  obtain ⟨ts, h⟩ := h
  refine Exists.elim h ?_
  clear h
  intro h0g_37 h
  refine Exists.elim h ?_
  clear h
  intro h0k_38 h
  obtain ⟨tc, h⟩ := h
  obtain ⟨rfl, rfl, rfl, rfl, rfl, rfl, rfl, rfl, rfl, rfl, rfl, rfl, rfl, rfl, rfl, rfl, rfl, rfl, rfl, rfl, rfl, rfl, rfl, rfl⟩ := h
  exact ⟨hs, tn, tt, tj, tm, tb, ts, tc⟩
theorem TO.copy {F : Nat → Int32} {xrf xmf xwf xpf xhnf xhtf xhjf xhmf xhbf xhsf xhcf : Nat → Int32} {ymd ytr yrn : Int32} {yrf : Nat → Int32} {ymn : Int32} {ymf : Nat → Int32} {ywn : Int32} {ywf : Nat → Int32} {ypn : Int32} {ypf : Nat → Int32} {yhnn : Int32} {yhnf : Nat → Int32} {yhtn : Int32} {yhtf : Nat → Int32} {yhjn : Int32} {yhjf : Nat → Int32} {yhmn : Int32} {yhmf : Nat → Int32} {yhbn : Int32} {yhbf : Nat → Int32} {yhsn : Int32} {yhsf : Nat → Int32} {yhcn : Int32} {yhcf xrg xmg xwg xpg : Nat → Int32} {xrk xmk xwk xpk xmd2 xtr2 : Int32} {xhng xhtg xhjg xhmg xhbg xhsg xhcg : Nat → Int32} {xhnk xhtk xhjk xhmk xhbk xhsk xhck : Int32} (hB : FIv F) (h : TO F yhnf yhtn yhtf yhjn yhjf yhmn yhmf yhbn yhbf yhsn yhsf yhcn yhcf) (hc : R_h_copyFromX xrf xmf xwf xpf xhnf xhtf xhjf xhmf xhbf xhsf xhcf ymd ytr yrn yrf ymn ymf ywn ywf ypn ypf yhnn yhnf yhtn yhtf yhjn yhjf yhmn yhmf yhbn yhbf yhsn yhsf yhcn yhcf xrg xmg xwg xpg xrk xmk xwk xpk xmd2 xtr2 xhng xhtg xhjg xhmg xhbg xhsg xhcg xhnk xhtk xhjk xhmk xhbk xhsk xhck) : TO F xhng xhtk xhtg xhjk xhjg xhmk xhmg xhbk xhbg xhsk xhsg xhck xhcg := by
  obtain ⟨-, tn, tt, tj, tm, tb, ts, tc⟩ := hc_all hc
  unfold R_t_copyFrom1_6X at tn
  unfold R_t_copyFrom4_1X at tt
  unfold R_t_copyFrom8_2X at tj
  unfold R_t_copyFrom4_3X at tm
  unfold R_t_copyFrom1_3X at tb
  unfold R_t_copyFrom6_3X at ts
  unfold R_t_copyFrom6_2X at tc
  obtain ⟨⟨a1, a2, a3, a4, a5⟩, hb, hn, h1, h2, hm, hbf, h3, h4⟩ := h
  obtain ⟨⟨-, b6⟩, ⟨-, b7⟩, ⟨-, b8⟩, ⟨-, b9⟩, ⟨-, b10⟩, ⟨-, b11⟩, ⟨-, b13⟩, ⟨-, b14⟩⟩ := hB
  refine ⟨⟨tt.2.trans a1, tj.2.trans a2, tm.2.trans a3, ts.2.trans a4, tc.2.trans a5⟩, ?_, fun j hj => ?_, TV_cpy (cap := 4) h1 (by omega) (fun i hi => cp_t (m := 4) (by decide) tt.1 i (by omega)), TV_cpy (cap := 8) h2 (by omega) (fun i hi => cp_t (m := 16) (by decide) tj.1 i (by omega)), fun k hk => ?_, fun q j hj => ?_, TV_cpy (cap := 6) h3 (by omega) (fun i hi => cp_t (m := 18) (by decide) ts.1 i (by omega)), TV_cpy (cap := 6) h4 (by omega) (fun i hi => cp_t (m := 12) (by decide) tc.1 i (by omega))⟩
  · rw [tb.2]; exact hb
  · rw [cp_t (m := 6) (by decide) tn.1 j (by omega)]; exact hn j hj
  · have q := cp_t (m := 12) (by decide) tm.1
    rw [q _ (by omega), q _ (by omega), q _ (by omega)]
    exact hm k hk
  · rw [cp_t (m := 3) (by decide) tb.1 j (by omega)]; exact hbf q j hj
theorem HG_TO {G : Nat → Int32} {ndg : Nat → Int32} {ndk : Int32} {nmg : Nat → Int64} {qhbg : Nat → Int32} {qhbk : Int32} {qhcg : Nat → Int32} {qhck : Int32} {qhjg : Nat → Int32} {qhjk : Int32} {qhmg : Nat → Int32} {qhmk : Int32} {qhng : Nat → Int32} {qhnk : Int32} {qhsg : Nat → Int32} {qhsk : Int32} {qhtg : Nat → Int32} {qhtk : Int32} {qmg : Nat → Int32} {qmk : Int32} {qpg : Nat → Int32} {qpk : Int32} {qrg : Nat → Int32} {qrk : Int32} {qwg : Nat → Int32} {qwk : Int32} (hR : HRel G ndk nmg ndg qrk qrg qmk qmg qwk qwg qpk qhnk qhtk qhjk qhmk qhbk qhsk qhck) (hV : HV G qrg qmg qwg qpg qhng qhtg qhjg qhmg qhbg qhsg qhcg) (h15 : G 15 ≠ 0) : TO G qhng qhtk qhtg qhjk qhjg qhmk qhmg qhbk qhbg qhsk qhsg qhck qhcg := by
  obtain ⟨-, ⟨-, r2, -, r4, -, r6, -, r8, r9⟩, -, -, hb, -⟩ := hR
  obtain ⟨-, -, -, -, hn, h1, h2, hm, hbf, h3, h4⟩ := hV
  exact ⟨⟨r2, r4, r6, r8, r9⟩, hb, hn h15, h1, h2, hm, hbf, h3, h4⟩
theorem HG_SG {G : Nat → Int32} {ndg : Nat → Int32} {ndk : Int32} {nmg : Nat → Int64} {qhbg : Nat → Int32} {qhbk : Int32} {qhcg : Nat → Int32} {qhck : Int32} {qhjg : Nat → Int32} {qhjk : Int32} {qhmg : Nat → Int32} {qhmk : Int32} {qhng : Nat → Int32} {qhnk : Int32} {qhsg : Nat → Int32} {qhsk : Int32} {qhtg : Nat → Int32} {qhtk qmd2 : Int32} {qmg : Nat → Int32} {qmk : Int32} {qpg : Nat → Int32} {qpk : Int32} {qrg : Nat → Int32} {qrk qtr2 : Int32} {qwg : Nat → Int32} {qwk : Int32} (hR : HRel G ndk nmg ndg qrk qrg qmk qmg qwk qwg qpk qhnk qhtk qhjk qhmk qhbk qhsk qhck) (hV : HV G qrg qmg qwg qpg qhng qhtg qhjg qhmg qhbg qhsg qhcg) (e1 : qmd2 = 0) (e2 : qtr2 = 0) : SG G qrk qmk qwk qpk qmd2 qtr2 qrg qmg qwg qpg := by
  obtain ⟨-, ⟨r1, -, r3, -, r5, -, r7, -, -⟩, -⟩ := hR
  obtain ⟨h1, h2, h3, h4, -⟩ := hV
  exact ⟨⟨r1, r3, r5, r7, e1, e2⟩, h1, h2, h3, h4⟩
theorem FIv.cg {F G : Nat → Int32} (e : ∀ i : Nat, i < 311 → G i = F i) (h : FIv F) : FIv G := by
  unfold FIv at h ⊢
  rw [e 6 (by first | decide | omega), e 7 (by first | decide | omega), e 8 (by first | decide | omega), e 9 (by first | decide | omega), e 10 (by first | decide | omega), e 11 (by first | decide | omega), e 13 (by first | decide | omega), e 14 (by first | decide | omega)]
  exact h
theorem RV.cg {F G : Nat → Int32} (e : ∀ i : Nat, i < 311 → G i = F i) (hB : FIv F) (h12 : IV (F 12) 0 8) (h : RV F) : RV G := ⟨RV0_keep hB h12 h.1 (by rw [e 6 (by first | decide | omega)]; exact Int.le_refl _) (by rw [e 7 (by first | decide | omega)]; exact Int.le_refl _) (fun i hi => e i (by omega)), VB_all hB h12 h.1 h.2 (fun i hi => e i (by omega))⟩
theorem TO.cg {F G : Nat → Int32} {yhnf : Nat → Int32} {yhtn : Int32} {yhtf : Nat → Int32} {yhjn : Int32} {yhjf : Nat → Int32} {yhmn : Int32} {yhmf : Nat → Int32} {yhbn : Int32} {yhbf : Nat → Int32} {yhsn : Int32} {yhsf : Nat → Int32} {yhcn : Int32} {yhcf : Nat → Int32} (e : ∀ i : Nat, i < 311 → G i = F i) (hB : FIv F) (h : TO F yhnf yhtn yhtf yhjn yhjf yhmn yhmf yhbn yhbf yhsn yhsf yhcn yhcf) : TO G yhnf yhtn yhtf yhjn yhjf yhmn yhmf yhbn yhbf yhsn yhsf yhcn yhcf := by
  obtain ⟨⟨a1, a2, a3, a4, a5⟩, hb, hn, h1, h2, hm, hbf, h3, h4⟩ := h
  obtain ⟨⟨-, b6⟩, ⟨-, b7⟩, ⟨-, b8⟩, ⟨-, b9⟩, ⟨-, b10⟩, ⟨-, b11⟩, ⟨-, b13⟩, ⟨-, b14⟩⟩ := hB
  refine ⟨⟨?_, ?_, ?_, ?_, ?_⟩, ?_, fun j hj => ?_, TV_keep (cap := 4) h1 (e 7 (by first | decide | omega)) (by omega) (fun i _ hi => e i (by omega)), TV_keep (cap := 8) h2 (e 9 (by first | decide | omega)) (by omega) (fun i _ hi => e i (by omega)), fun k hk => ?_, fun q j hj => ?_, TV_keep (cap := 6) h3 (e 13 (by first | decide | omega)) (by omega) (fun i _ hi => e i (by omega)), TV_keep (cap := 6) h4 (e 14 (by first | decide | omega)) (by omega) (fun i _ hi => e i (by omega))⟩
  · rw [e 7 (by first | decide | omega)]; exact a1
  · rw [e 9 (by first | decide | omega)]; exact a2
  · rw [e 11 (by first | decide | omega)]; exact a3
  · rw [e 13 (by first | decide | omega)]; exact a4
  · rw [e 14 (by first | decide | omega)]; exact a5
  · rw [e 134 (by first | decide | omega)]; exact hb
  · rw [e j (by omega)]; exact hn j hj
  · rw [e 11 (by first | decide | omega)] at hk
    rw [e (114 + 3 * k) (by omega), e (114 + 3 * k + 2) (by omega), e (114 + 3 * k + 1) (by omega)]
    exact hm k hk
  · rw [e 134 (by first | decide | omega)] at q
    rw [e (134 + j) (by omega)]
    exact hbf q j hj
theorem SG_SR {F G S : Nat → Int32} {zrn zmn zwn zpn zmd ztr : Int32} {zrf zmf zwf zpf : Nat → Int32} (e : ∀ i : Nat, i < 311 → G i = F i) (hB : FIv F) (h12 : IV (F 12) 0 8) (h : SG F zrn zmn zwn zpn zmd ztr zrf zmf zwf zpf) (hS : StF F S) : SR G S zrn zmn zwn zpn zmd ztr zrf zmf zwf zpf := by
  obtain ⟨⟨a1, a2, a3, a4, a5, a6⟩, h1, h2, h3, h4⟩ := h
  obtain ⟨s1, s2, s3, s4, s5, s6⟩ := hS
  obtain ⟨⟨-, b6⟩, ⟨-, b7⟩, ⟨-, b8⟩, ⟨-, b9⟩, ⟨-, b10⟩, ⟨-, b11⟩, ⟨-, b13⟩, ⟨-, b14⟩⟩ := hB
  obtain ⟨-, b12⟩ := h12
  refine ⟨⟨?_, ?_, ?_, ?_, a5.trans s6.symm, a6.trans s5.symm⟩, fun k hk => ?_, fun k hk => ?_, fun k hk => ?_, fun k hk => ?_⟩
  · rw [e 6 (by first | decide | omega)]; exact a1
  · rw [e 8 (by first | decide | omega)]; exact a2
  · rw [e 10 (by first | decide | omega)]; exact a3
  · rw [e 12 (by first | decide | omega)]; exact a4
  · rw [e 6 (by first | decide | omega)] at hk
    rw [e (16 + 3 * k + 2) (by omega), (s1 k hk).1, (s1 k hk).2]
    exact ⟨h1 k 0 hk (by omega), h1 k 1 hk (by omega), h1 k 2 hk (by omega)⟩
  · rw [e 8 (by first | decide | omega)] at hk
    rw [e (44 + 3 * k) (by omega), e (44 + 3 * k + 2) (by omega), s2 k hk]
    exact ⟨h2 k 0 hk (by omega), h2 k 1 hk (by omega), h2 k 2 hk (by omega)⟩
  · rw [e 10 (by first | decide | omega)] at hk
    rw [e (96 + 3 * k) (by omega), e (96 + 3 * k + 2) (by omega), s3 k hk]
    exact ⟨h3 k 0 hk (by omega), h3 k 1 hk (by omega), h3 k 2 hk (by omega)⟩
  · rw [e 12 (by first | decide | omega)] at hk
    rw [e (126 + k) (by omega), s4 k hk]
    exact h4 k hk
theorem TxR_in {T : Nat → Int32} {n : Int32} : ∀ (k : Nat) (F : Nat → Int32) (a : Int32) (v : (Nat → Int32) × Int32), TxR T n k F a (.inr v) → v.1 15 ≠ 0 ∧ v.1 12 ≠ 0 ∧ v.1 11 ≠ 0 := by
  intro k
  induction k with
  | zero => intro F a v h; exact h.elim
  | succ k ih =>
    intro F a v h
    rw [TxR] at h
    rcases h.2 with ⟨e2, h1, h2⟩ | ⟨w, h1, h2⟩
    · cases h2
    · rcases h2 with ⟨-, h2⟩ | ⟨-, ⟨-, h2⟩ | ⟨h3, h2⟩⟩ | ⟨-, -, h2⟩
      · exact ih _ _ _ h2
      · cases h2
      · cases h2; exact h3
      · cases h2

set_option maxRecDepth 100000
set_option maxHeartbeats 4000000
def SAMEh (yhnf : Nat → Int32) (yhtn : Int32) (yhtf : Nat → Int32) (yhjn : Int32) (yhjf : Nat → Int32) (yhmn : Int32) (yhmf : Nat → Int32) (yhbn : Int32) (yhbf : Nat → Int32) (yhsn : Int32) (yhsf : Nat → Int32) (yhcn : Int32) (yhcf : Nat → Int32) (zrn zmn zwn zpn zmd ztr : Int32) (zrf zmf zwf zpf : Nat → Int32) (kac kim : Int32) (yhng : Nat → Int32) (yhtk : Int32) (yhtg : Nat → Int32) (yhjk : Int32) (yhjg : Nat → Int32) (yhmk : Int32) (yhmg : Nat → Int32) (yhbk : Int32) (yhbg : Nat → Int32) (yhsk : Int32) (yhsg : Nat → Int32) (yhck : Int32) (yhcg : Nat → Int32) (zrk zmk zwk zpk zmd2 ztr2 : Int32) (zrg zmg zwg zpg : Nat → Int32) (kac2 kim2 : Int32) : Prop := yhng = yhnf ∧ yhtk = yhtn ∧ yhtg = yhtf ∧ yhjk = yhjn ∧ yhjg = yhjf ∧ yhmk = yhmn ∧ yhmg = yhmf ∧ yhbk = yhbn ∧ yhbg = yhbf ∧ yhsk = yhsn ∧ yhsg = yhsf ∧ yhck = yhcn ∧ yhcg = yhcf ∧ zrk = zrn ∧ zmk = zmn ∧ zwk = zwn ∧ zpk = zpn ∧ zmd2 = zmd ∧ ztr2 = ztr ∧ zrg = zrf ∧ zmg = zmf ∧ zwg = zwf ∧ zpg = zpf ∧ kac2 = kac ∧ kim2 = kim
def HXS (n t : Int32) (tp : Nat → Int32) (yhnf : Nat → Int32) (yhtn : Int32) (yhtf : Nat → Int32) (yhjn : Int32) (yhjf : Nat → Int32) (yhmn : Int32) (yhmf : Nat → Int32) (yhbn : Int32) (yhbf : Nat → Int32) (yhsn : Int32) (yhsf : Nat → Int32) (yhcn : Int32) (yhcf : Nat → Int32) (zrn zmn zwn zpn zmd ztr : Int32) (zrf zmf zwf zpf : Nat → Int32) (kac kim : Int32) (t2 : Int32) (yhng : Nat → Int32) (yhtk : Int32) (yhtg : Nat → Int32) (yhjk : Int32) (yhjg : Nat → Int32) (yhmk : Int32) (yhmg : Nat → Int32) (yhbk : Int32) (yhbg : Nat → Int32) (yhsk : Int32) (yhsg : Nat → Int32) (yhck : Int32) (yhcg : Nat → Int32) (zrk zmk zwk zpk zmd2 ztr2 : Int32) (zrg zmg zwg zpg : Nat → Int32) (kac2 kim2 : Int32) : Prop := ∀ T : Nat → Int32, TpR tp T → (¬ (0 ≤ n.toInt ∧ n.toInt ≤ t.toInt) ∧ t2 = t ∧ SAMEh yhnf yhtn yhtf yhjn yhjf yhmn yhmf yhbn yhbf yhsn yhsf yhcn yhcf zrn zmn zwn zpn zmd ztr zrf zmf zwf zpf kac kim yhng yhtk yhtg yhjk yhjg yhmk yhmg yhbk yhbg yhsk yhsg yhck yhcg zrk zmk zwk zpk zmd2 ztr2 zrg zmg zwg zpg kac2 kim2) ∨ ((0 ≤ n.toInt ∧ n.toInt ≤ t.toInt) ∧ t2 = 0 ∧ ∀ F0 : Nat → Int32, (∀ i : Nat, i < 311 → F0 i = 0) → ∃ (k : Nat) (ρ : Rs ((Nat → Int32) × Int32)), TxR T n k F0 (rn T n 5 0) ρ ∧ ((∃ e : Int32 × Int32, ρ = .inl e ∧ SAMEh yhnf yhtn yhtf yhjn yhjf yhmn yhmf yhbn yhbf yhsn yhsf yhcn yhcf zrn zmn zwn zpn zmd ztr zrf zmf zwf zpf kac kim yhng yhtk yhtg yhjk yhjg yhmk yhmg yhbk yhbg yhsk yhsg yhck yhcg zrk zmk zwk zpk zmd2 ztr2 zrg zmg zwg zpg kac2 kim2) ∨ (∃ v : (Nat → Int32) × Int32, ρ = .inr v ∧ TO v.1 yhng yhtk yhtg yhjk yhjg yhmk yhmg yhbk yhbg yhsk yhsg yhck yhcg ∧ SG v.1 zrk zmk zwk zpk zmd2 ztr2 zrg zmg zwg zpg ∧ kac2 = 0 ∧ kim2 = 0 ∧ FIv v.1 ∧ IV (v.1 12) 0 8 ∧ RV v.1)))
theorem qc_houseS {p0 xtpd xfn xfp xen xkd xsta xpo xva : Int32} {xle : Int64} {xtk xta : Int32} {tpf : Nat → Int32} {nmf : Nat → Int64} {ndn : Int32} {ndf : Nat → Int32} {qmd qtr qrn : Int32} {qrf : Nat → Int32} {qmn : Int32} {qmf : Nat → Int32} {qwn : Int32} {qwf : Nat → Int32} {qpn : Int32} {qpf : Nat → Int32} {qhnn : Int32} {qhnf : Nat → Int32} {qhtn : Int32} {qhtf : Nat → Int32} {qhjn : Int32} {qhjf : Nat → Int32} {qhmn : Int32} {qhmf : Nat → Int32} {qhbn : Int32} {qhbf : Nat → Int32} {qhsn : Int32} {qhsf : Nat → Int32} {qhcn : Int32} {qhcf : Nat → Int32} {ymd ytr yrn : Int32} {yrf : Nat → Int32} {ymn : Int32} {ymf : Nat → Int32} {ywn : Int32} {ywf : Nat → Int32} {ypn : Int32} {ypf : Nat → Int32} {yhnn : Int32} {yhnf : Nat → Int32} {yhtn : Int32} {yhtf : Nat → Int32} {yhjn : Int32} {yhjf : Nat → Int32} {yhmn : Int32} {yhmf : Nat → Int32} {yhbn : Int32} {yhbf : Nat → Int32} {yhsn : Int32} {yhsf : Nat → Int32} {yhcn : Int32} {yhcf : Nat → Int32} {zmd ztr zrn : Int32} {zrf : Nat → Int32} {zmn : Int32} {zmf : Nat → Int32} {zwn : Int32} {zwf : Nat → Int32} {zpn : Int32} {zpf : Nat → Int32} {kac kim tr2 xfn2 xfp2 xkd2 xsta2 xpo2 xva2 : Int32} {xle2 : Int64} {xtk2 xta2 xtpd2 xen2 : Int32} {nmfg : Nat → Int64} {ndfg : Nat → Int32} {ndnk : Int32} {qrg qmg qwg qpg : Nat → Int32} {qrk qmk qwk qpk qmd2 qtr2 : Int32} {qhng qhtg qhjg qhmg qhbg qhsg qhcg : Nat → Int32} {qhnk qhtk qhjk qhmk qhbk qhsk qhck : Int32} {yrg ymg ywg ypg : Nat → Int32} {yrk ymk ywk ypk ymd2 ytr2 : Int32} {yhng yhtg yhjg yhmg yhbg yhsg yhcg : Nat → Int32} {yhnk yhtk yhjk yhmk yhbk yhsk yhck : Int32} {zrg zmg zwg zpg : Nat → Int32} {zrk zmk zwk zpk zmd2 ztr2 kac2 kim2 r : Int32} (ht : IV xtpd 0 900) (h : R_c_houseX p0 xtpd xfn xfp xen xkd xsta xpo xva xle xtk xta tpf nmf ndn ndf qmd qtr qrn qrf qmn qmf qwn qwf qpn qpf qhnn qhnf qhtn qhtf qhjn qhjf qhmn qhmf qhbn qhbf qhsn qhsf qhcn qhcf ymd ytr yrn yrf ymn ymf ywn ywf ypn ypf yhnn yhnf yhtn yhtf yhjn yhjf yhmn yhmf yhbn yhbf yhsn yhsf yhcn yhcf zmd ztr zrn zrf zmn zmf zwn zwf zpn zpf kac kim tr2 xfn2 xfp2 xkd2 xsta2 xpo2 xva2 xle2 xtk2 xta2 xtpd2 xen2 nmfg ndfg ndnk qrg qmg qwg qpg qrk qmk qwk qpk qmd2 qtr2 qhng qhtg qhjg qhmg qhbg qhsg qhcg qhnk qhtk qhjk qhmk qhbk qhsk qhck yrg ymg ywg ypg yrk ymk ywk ypk ymd2 ytr2 yhng yhtg yhjg yhmg yhbg yhsg yhcg yhnk yhtk yhjk yhmk yhbk yhsk yhck zrg zmg zwg zpg zrk zmk zwk zpk zmd2 ztr2 kac2 kim2 r) : HXS p0 xtpd tpf yhnf yhtn yhtf yhjn yhjf yhmn yhmf yhbn yhbf yhsn yhsf yhcn yhcf zrn zmn zwn zpn zmd ztr zrf zmf zwf zpf kac kim xtpd2 yhng yhtk yhtg yhjk yhjg yhmk yhmg yhbk yhbg yhsk yhsg yhck yhcg zrk zmk zwk zpk zmd2 ztr2 zrg zmg zwg zpg kac2 kim2 := by
  intro T hT
  unfold R_c_houseX at h
  have z0 : (0 : Int32).toInt = 0 := by decide
  rcases h with ⟨q, h⟩ | ⟨q, h⟩
  · have q1 := Int32.lt_iff_toInt_lt.mp q
    rw [z0] at q1
    refine Exists.elim h ?_
    clear h
    intro tr2_4 h
    refine Exists.elim h ?_
    clear h
    intro r_5 h
    obtain ⟨g0_c_refuseX, h⟩ := h
    exact Or.inl ⟨fun w => by omega, h.2.2.2.2.2.2.2.2.2.2.1, ⟨h.2.2.2.2.2.2.2.2.2.2.2.2.2.2.2.2.2.2.2.2.2.2.2.2.2.2.2.2.2.2.2.2.2.2.2.2.2.2.2.2.2.2.2.2.2.2.2.2.2.1, h.2.2.2.2.2.2.2.2.2.2.2.2.2.2.2.2.2.2.2.2.2.2.2.2.2.2.2.2.2.2.2.2.2.2.2.2.2.2.2.2.2.2.2.2.2.2.2.2.2.2.2.2.2.2.2.2.2.1, h.2.2.2.2.2.2.2.2.2.2.2.2.2.2.2.2.2.2.2.2.2.2.2.2.2.2.2.2.2.2.2.2.2.2.2.2.2.2.2.2.2.2.2.2.2.2.2.2.2.2.1, h.2.2.2.2.2.2.2.2.2.2.2.2.2.2.2.2.2.2.2.2.2.2.2.2.2.2.2.2.2.2.2.2.2.2.2.2.2.2.2.2.2.2.2.2.2.2.2.2.2.2.2.2.2.2.2.2.2.2.1, h.2.2.2.2.2.2.2.2.2.2.2.2.2.2.2.2.2.2.2.2.2.2.2.2.2.2.2.2.2.2.2.2.2.2.2.2.2.2.2.2.2.2.2.2.2.2.2.2.2.2.2.1, h.2.2.2.2.2.2.2.2.2.2.2.2.2.2.2.2.2.2.2.2.2.2.2.2.2.2.2.2.2.2.2.2.2.2.2.2.2.2.2.2.2.2.2.2.2.2.2.2.2.2.2.2.2.2.2.2.2.2.2.1, h.2.2.2.2.2.2.2.2.2.2.2.2.2.2.2.2.2.2.2.2.2.2.2.2.2.2.2.2.2.2.2.2.2.2.2.2.2.2.2.2.2.2.2.2.2.2.2.2.2.2.2.2.1, h.2.2.2.2.2.2.2.2.2.2.2.2.2.2.2.2.2.2.2.2.2.2.2.2.2.2.2.2.2.2.2.2.2.2.2.2.2.2.2.2.2.2.2.2.2.2.2.2.2.2.2.2.2.2.2.2.2.2.2.2.1, h.2.2.2.2.2.2.2.2.2.2.2.2.2.2.2.2.2.2.2.2.2.2.2.2.2.2.2.2.2.2.2.2.2.2.2.2.2.2.2.2.2.2.2.2.2.2.2.2.2.2.2.2.2.1, h.2.2.2.2.2.2.2.2.2.2.2.2.2.2.2.2.2.2.2.2.2.2.2.2.2.2.2.2.2.2.2.2.2.2.2.2.2.2.2.2.2.2.2.2.2.2.2.2.2.2.2.2.2.2.2.2.2.2.2.2.2.1, h.2.2.2.2.2.2.2.2.2.2.2.2.2.2.2.2.2.2.2.2.2.2.2.2.2.2.2.2.2.2.2.2.2.2.2.2.2.2.2.2.2.2.2.2.2.2.2.2.2.2.2.2.2.2.1, h.2.2.2.2.2.2.2.2.2.2.2.2.2.2.2.2.2.2.2.2.2.2.2.2.2.2.2.2.2.2.2.2.2.2.2.2.2.2.2.2.2.2.2.2.2.2.2.2.2.2.2.2.2.2.2.2.2.2.2.2.2.2.1, h.2.2.2.2.2.2.2.2.2.2.2.2.2.2.2.2.2.2.2.2.2.2.2.2.2.2.2.2.2.2.2.2.2.2.2.2.2.2.2.2.2.2.2.2.2.2.2.2.2.2.2.2.2.2.2.1, h.2.2.2.2.2.2.2.2.2.2.2.2.2.2.2.2.2.2.2.2.2.2.2.2.2.2.2.2.2.2.2.2.2.2.2.2.2.2.2.2.2.2.2.2.2.2.2.2.2.2.2.2.2.2.2.2.2.2.2.2.2.2.2.2.2.2.2.1, h.2.2.2.2.2.2.2.2.2.2.2.2.2.2.2.2.2.2.2.2.2.2.2.2.2.2.2.2.2.2.2.2.2.2.2.2.2.2.2.2.2.2.2.2.2.2.2.2.2.2.2.2.2.2.2.2.2.2.2.2.2.2.2.2.2.2.2.2.1, h.2.2.2.2.2.2.2.2.2.2.2.2.2.2.2.2.2.2.2.2.2.2.2.2.2.2.2.2.2.2.2.2.2.2.2.2.2.2.2.2.2.2.2.2.2.2.2.2.2.2.2.2.2.2.2.2.2.2.2.2.2.2.2.2.2.2.2.2.2.1, h.2.2.2.2.2.2.2.2.2.2.2.2.2.2.2.2.2.2.2.2.2.2.2.2.2.2.2.2.2.2.2.2.2.2.2.2.2.2.2.2.2.2.2.2.2.2.2.2.2.2.2.2.2.2.2.2.2.2.2.2.2.2.2.2.2.2.2.2.2.2.1, h.2.2.2.2.2.2.2.2.2.2.2.2.2.2.2.2.2.2.2.2.2.2.2.2.2.2.2.2.2.2.2.2.2.2.2.2.2.2.2.2.2.2.2.2.2.2.2.2.2.2.2.2.2.2.2.2.2.2.2.2.2.2.2.2.2.2.2.2.2.2.2.1, h.2.2.2.2.2.2.2.2.2.2.2.2.2.2.2.2.2.2.2.2.2.2.2.2.2.2.2.2.2.2.2.2.2.2.2.2.2.2.2.2.2.2.2.2.2.2.2.2.2.2.2.2.2.2.2.2.2.2.2.2.2.2.2.2.2.2.2.2.2.2.2.2.1, h.2.2.2.2.2.2.2.2.2.2.2.2.2.2.2.2.2.2.2.2.2.2.2.2.2.2.2.2.2.2.2.2.2.2.2.2.2.2.2.2.2.2.2.2.2.2.2.2.2.2.2.2.2.2.2.2.2.2.2.2.2.2.2.1, h.2.2.2.2.2.2.2.2.2.2.2.2.2.2.2.2.2.2.2.2.2.2.2.2.2.2.2.2.2.2.2.2.2.2.2.2.2.2.2.2.2.2.2.2.2.2.2.2.2.2.2.2.2.2.2.2.2.2.2.2.2.2.2.2.1, h.2.2.2.2.2.2.2.2.2.2.2.2.2.2.2.2.2.2.2.2.2.2.2.2.2.2.2.2.2.2.2.2.2.2.2.2.2.2.2.2.2.2.2.2.2.2.2.2.2.2.2.2.2.2.2.2.2.2.2.2.2.2.2.2.2.1, h.2.2.2.2.2.2.2.2.2.2.2.2.2.2.2.2.2.2.2.2.2.2.2.2.2.2.2.2.2.2.2.2.2.2.2.2.2.2.2.2.2.2.2.2.2.2.2.2.2.2.2.2.2.2.2.2.2.2.2.2.2.2.2.2.2.2.1, h.2.2.2.2.2.2.2.2.2.2.2.2.2.2.2.2.2.2.2.2.2.2.2.2.2.2.2.2.2.2.2.2.2.2.2.2.2.2.2.2.2.2.2.2.2.2.2.2.2.2.2.2.2.2.2.2.2.2.2.2.2.2.2.2.2.2.2.2.2.2.2.2.2.1, h.2.2.2.2.2.2.2.2.2.2.2.2.2.2.2.2.2.2.2.2.2.2.2.2.2.2.2.2.2.2.2.2.2.2.2.2.2.2.2.2.2.2.2.2.2.2.2.2.2.2.2.2.2.2.2.2.2.2.2.2.2.2.2.2.2.2.2.2.2.2.2.2.2.2.1⟩⟩
  have q1 : 0 ≤ p0.toInt := Int.not_lt.mp (fun w => q (Int32.lt_iff_toInt_lt.mpr (by rw [z0]; exact w)))
  rcases h with ⟨q2, h⟩ | ⟨q2, h⟩
  · have q3 := Int32.le_iff_toInt_le.mp q2
    have hn : IV p0 0 900 := ⟨q1, by have := ht.2; omega⟩
    refine exL36 h ?_
    clear h
    intro xfn2_12 xfp2_13 xkd2_14 xsta2_15 xpo2_16 xva2_17 xle2_18 xtk2_19 xta2_20 nmfg_21 ndfg_22 ndnk_23 qrg_24 qmg_25 qwg_26 qpg_27 qrk_28 qmk_29 qwk_30 qpk_31 qmd2_32 qtr2_33 qhng_34 qhtg_35 qhjg_36 qhmg_37 qhbg_38 qhsg_39 qhcg_40 qhnk_41 qhtk_42 qhjk_43 qhmk_44 qhbk_45 qhsk_46 qhck_47 h
    obtain ⟨g0_x_readX, h⟩ := h
    have hz := kp_x_readX g0_x_readX
    rcases h with ⟨q4, h⟩ | ⟨q4, h⟩
    · skip
      refine exL24 h ?_
      clear h
      intro xrg_54 xmg_55 xwg_56 xpg_57 xrk_58 xmk_59 xwk_60 xpk_61 xmd2_62 xtr2_63 xhng_64 xhtg_65 xhjg_66 xhmg_67 xhbg_68 xhsg_69 xhcg_70 xhnk_71 xhtk_72 xhjk_73 xhmk_74 xhbk_75 xhsk_76 xhck_77 h
      obtain ⟨g0_h_copyFromX, h⟩ := h
      refine exL10 h ?_
      clear h
      intro xrg_80 xmg_81 xwg_82 xpg_83 xrk_84 xmk_85 xwk_86 xpk_87 xmd2_88 xtr2_89 h
      obtain ⟨g1_s_copyFromX, h⟩ := h
      refine Exists.elim h ?_
      clear h
      intro kac2_92 h
      refine Exists.elim h ?_
      clear h
      intro kim2_93 h
      obtain ⟨g2_g_forgetX, h⟩ := h
      refine Exists.elim h ?_
      clear h
      intro tr2_98 h
      refine Exists.elim h ?_
      clear h
      intro r_99 h
      obtain ⟨g3_c_tellX, h⟩ := h
      refine Or.inr ⟨⟨q1, q3⟩, h.2.2.2.2.2.2.2.2.2.2.1, fun F0 hF => ?_⟩
      obtain ⟨k, ρ, hk, hx⟩ := qx_read hn hT hF g0_x_readX
      refine ⟨k, ρ, hk, ?_⟩
      cases ρ with
      | inl e => exact absurd (hx.1.symm.trans q4) (NZ_text _ _ _ _ hk)
      | inr v =>
        obtain ⟨-, -, hR, hV, hRV⟩ := hx
        have h15 := (TxR_in _ _ _ _ hk).1
        have hB := hR.2.2.1
        have h12 := hR.2.2.2.1
        have hTO := TO.copy hB (HG_TO hR hV h15) g0_h_copyFromX
        have hSG := SG.copy hB h12 (SG.copy hB h12 (HG_SG hR hV hz.1 hz.2) (hc_all g0_h_copyFromX).1) g1_s_copyFromX
        refine Or.inr ⟨v, rfl, ?_, ?_, (h.2.2.2.2.2.2.2.2.2.2.2.2.2.2.2.2.2.2.2.2.2.2.2.2.2.2.2.2.2.2.2.2.2.2.2.2.2.2.2.2.2.2.2.2.2.2.2.2.2.2.2.2.2.2.2.2.2.2.2.2.2.2.2.2.2.2.2.2.2.2.2.2.2.1).trans g2_g_forgetX.1, (h.2.2.2.2.2.2.2.2.2.2.2.2.2.2.2.2.2.2.2.2.2.2.2.2.2.2.2.2.2.2.2.2.2.2.2.2.2.2.2.2.2.2.2.2.2.2.2.2.2.2.2.2.2.2.2.2.2.2.2.2.2.2.2.2.2.2.2.2.2.2.2.2.2.2.1).trans g2_g_forgetX.2, hB, h12, hRV⟩
        · rw [h.2.2.2.2.2.2.2.2.2.2.2.2.2.2.2.2.2.2.2.2.2.2.2.2.2.2.2.2.2.2.2.2.2.2.2.2.2.2.2.2.2.2.2.2.2.2.2.2.2.1, h.2.2.2.2.2.2.2.2.2.2.2.2.2.2.2.2.2.2.2.2.2.2.2.2.2.2.2.2.2.2.2.2.2.2.2.2.2.2.2.2.2.2.2.2.2.2.2.2.2.2.2.2.2.2.2.2.2.1, h.2.2.2.2.2.2.2.2.2.2.2.2.2.2.2.2.2.2.2.2.2.2.2.2.2.2.2.2.2.2.2.2.2.2.2.2.2.2.2.2.2.2.2.2.2.2.2.2.2.2.1, h.2.2.2.2.2.2.2.2.2.2.2.2.2.2.2.2.2.2.2.2.2.2.2.2.2.2.2.2.2.2.2.2.2.2.2.2.2.2.2.2.2.2.2.2.2.2.2.2.2.2.2.2.2.2.2.2.2.2.1, h.2.2.2.2.2.2.2.2.2.2.2.2.2.2.2.2.2.2.2.2.2.2.2.2.2.2.2.2.2.2.2.2.2.2.2.2.2.2.2.2.2.2.2.2.2.2.2.2.2.2.2.1, h.2.2.2.2.2.2.2.2.2.2.2.2.2.2.2.2.2.2.2.2.2.2.2.2.2.2.2.2.2.2.2.2.2.2.2.2.2.2.2.2.2.2.2.2.2.2.2.2.2.2.2.2.2.2.2.2.2.2.2.1, h.2.2.2.2.2.2.2.2.2.2.2.2.2.2.2.2.2.2.2.2.2.2.2.2.2.2.2.2.2.2.2.2.2.2.2.2.2.2.2.2.2.2.2.2.2.2.2.2.2.2.2.2.1, h.2.2.2.2.2.2.2.2.2.2.2.2.2.2.2.2.2.2.2.2.2.2.2.2.2.2.2.2.2.2.2.2.2.2.2.2.2.2.2.2.2.2.2.2.2.2.2.2.2.2.2.2.2.2.2.2.2.2.2.2.1, h.2.2.2.2.2.2.2.2.2.2.2.2.2.2.2.2.2.2.2.2.2.2.2.2.2.2.2.2.2.2.2.2.2.2.2.2.2.2.2.2.2.2.2.2.2.2.2.2.2.2.2.2.2.1, h.2.2.2.2.2.2.2.2.2.2.2.2.2.2.2.2.2.2.2.2.2.2.2.2.2.2.2.2.2.2.2.2.2.2.2.2.2.2.2.2.2.2.2.2.2.2.2.2.2.2.2.2.2.2.2.2.2.2.2.2.2.1, h.2.2.2.2.2.2.2.2.2.2.2.2.2.2.2.2.2.2.2.2.2.2.2.2.2.2.2.2.2.2.2.2.2.2.2.2.2.2.2.2.2.2.2.2.2.2.2.2.2.2.2.2.2.2.1, h.2.2.2.2.2.2.2.2.2.2.2.2.2.2.2.2.2.2.2.2.2.2.2.2.2.2.2.2.2.2.2.2.2.2.2.2.2.2.2.2.2.2.2.2.2.2.2.2.2.2.2.2.2.2.2.2.2.2.2.2.2.2.1, h.2.2.2.2.2.2.2.2.2.2.2.2.2.2.2.2.2.2.2.2.2.2.2.2.2.2.2.2.2.2.2.2.2.2.2.2.2.2.2.2.2.2.2.2.2.2.2.2.2.2.2.2.2.2.2.1]; exact hTO
        · rw [h.2.2.2.2.2.2.2.2.2.2.2.2.2.2.2.2.2.2.2.2.2.2.2.2.2.2.2.2.2.2.2.2.2.2.2.2.2.2.2.2.2.2.2.2.2.2.2.2.2.2.2.2.2.2.2.2.2.2.2.2.2.2.2.2.2.2.2.1, h.2.2.2.2.2.2.2.2.2.2.2.2.2.2.2.2.2.2.2.2.2.2.2.2.2.2.2.2.2.2.2.2.2.2.2.2.2.2.2.2.2.2.2.2.2.2.2.2.2.2.2.2.2.2.2.2.2.2.2.2.2.2.2.2.2.2.2.2.1, h.2.2.2.2.2.2.2.2.2.2.2.2.2.2.2.2.2.2.2.2.2.2.2.2.2.2.2.2.2.2.2.2.2.2.2.2.2.2.2.2.2.2.2.2.2.2.2.2.2.2.2.2.2.2.2.2.2.2.2.2.2.2.2.2.2.2.2.2.2.1, h.2.2.2.2.2.2.2.2.2.2.2.2.2.2.2.2.2.2.2.2.2.2.2.2.2.2.2.2.2.2.2.2.2.2.2.2.2.2.2.2.2.2.2.2.2.2.2.2.2.2.2.2.2.2.2.2.2.2.2.2.2.2.2.2.2.2.2.2.2.2.1, h.2.2.2.2.2.2.2.2.2.2.2.2.2.2.2.2.2.2.2.2.2.2.2.2.2.2.2.2.2.2.2.2.2.2.2.2.2.2.2.2.2.2.2.2.2.2.2.2.2.2.2.2.2.2.2.2.2.2.2.2.2.2.2.2.2.2.2.2.2.2.2.1, h.2.2.2.2.2.2.2.2.2.2.2.2.2.2.2.2.2.2.2.2.2.2.2.2.2.2.2.2.2.2.2.2.2.2.2.2.2.2.2.2.2.2.2.2.2.2.2.2.2.2.2.2.2.2.2.2.2.2.2.2.2.2.2.2.2.2.2.2.2.2.2.2.1, h.2.2.2.2.2.2.2.2.2.2.2.2.2.2.2.2.2.2.2.2.2.2.2.2.2.2.2.2.2.2.2.2.2.2.2.2.2.2.2.2.2.2.2.2.2.2.2.2.2.2.2.2.2.2.2.2.2.2.2.2.2.2.2.1, h.2.2.2.2.2.2.2.2.2.2.2.2.2.2.2.2.2.2.2.2.2.2.2.2.2.2.2.2.2.2.2.2.2.2.2.2.2.2.2.2.2.2.2.2.2.2.2.2.2.2.2.2.2.2.2.2.2.2.2.2.2.2.2.2.1, h.2.2.2.2.2.2.2.2.2.2.2.2.2.2.2.2.2.2.2.2.2.2.2.2.2.2.2.2.2.2.2.2.2.2.2.2.2.2.2.2.2.2.2.2.2.2.2.2.2.2.2.2.2.2.2.2.2.2.2.2.2.2.2.2.2.1, h.2.2.2.2.2.2.2.2.2.2.2.2.2.2.2.2.2.2.2.2.2.2.2.2.2.2.2.2.2.2.2.2.2.2.2.2.2.2.2.2.2.2.2.2.2.2.2.2.2.2.2.2.2.2.2.2.2.2.2.2.2.2.2.2.2.2.1]; exact hSG
    · skip
      refine Exists.elim h ?_
      clear h
      intro tr2_101 h
      refine Exists.elim h ?_
      clear h
      intro r_102 h
      obtain ⟨g0_c_refuseX, h⟩ := h
      refine Or.inr ⟨⟨q1, q3⟩, h.2.2.2.2.2.2.2.2.2.2.1, fun F0 hF => ?_⟩
      obtain ⟨k, ρ, hk, hx⟩ := qx_read hn hT hF g0_x_readX
      refine ⟨k, ρ, hk, ?_⟩
      cases ρ with
      | inl e => exact Or.inl ⟨e, rfl, ⟨h.2.2.2.2.2.2.2.2.2.2.2.2.2.2.2.2.2.2.2.2.2.2.2.2.2.2.2.2.2.2.2.2.2.2.2.2.2.2.2.2.2.2.2.2.2.2.2.2.2.1, h.2.2.2.2.2.2.2.2.2.2.2.2.2.2.2.2.2.2.2.2.2.2.2.2.2.2.2.2.2.2.2.2.2.2.2.2.2.2.2.2.2.2.2.2.2.2.2.2.2.2.2.2.2.2.2.2.2.1, h.2.2.2.2.2.2.2.2.2.2.2.2.2.2.2.2.2.2.2.2.2.2.2.2.2.2.2.2.2.2.2.2.2.2.2.2.2.2.2.2.2.2.2.2.2.2.2.2.2.2.1, h.2.2.2.2.2.2.2.2.2.2.2.2.2.2.2.2.2.2.2.2.2.2.2.2.2.2.2.2.2.2.2.2.2.2.2.2.2.2.2.2.2.2.2.2.2.2.2.2.2.2.2.2.2.2.2.2.2.2.1, h.2.2.2.2.2.2.2.2.2.2.2.2.2.2.2.2.2.2.2.2.2.2.2.2.2.2.2.2.2.2.2.2.2.2.2.2.2.2.2.2.2.2.2.2.2.2.2.2.2.2.2.1, h.2.2.2.2.2.2.2.2.2.2.2.2.2.2.2.2.2.2.2.2.2.2.2.2.2.2.2.2.2.2.2.2.2.2.2.2.2.2.2.2.2.2.2.2.2.2.2.2.2.2.2.2.2.2.2.2.2.2.2.1, h.2.2.2.2.2.2.2.2.2.2.2.2.2.2.2.2.2.2.2.2.2.2.2.2.2.2.2.2.2.2.2.2.2.2.2.2.2.2.2.2.2.2.2.2.2.2.2.2.2.2.2.2.1, h.2.2.2.2.2.2.2.2.2.2.2.2.2.2.2.2.2.2.2.2.2.2.2.2.2.2.2.2.2.2.2.2.2.2.2.2.2.2.2.2.2.2.2.2.2.2.2.2.2.2.2.2.2.2.2.2.2.2.2.2.1, h.2.2.2.2.2.2.2.2.2.2.2.2.2.2.2.2.2.2.2.2.2.2.2.2.2.2.2.2.2.2.2.2.2.2.2.2.2.2.2.2.2.2.2.2.2.2.2.2.2.2.2.2.2.1, h.2.2.2.2.2.2.2.2.2.2.2.2.2.2.2.2.2.2.2.2.2.2.2.2.2.2.2.2.2.2.2.2.2.2.2.2.2.2.2.2.2.2.2.2.2.2.2.2.2.2.2.2.2.2.2.2.2.2.2.2.2.1, h.2.2.2.2.2.2.2.2.2.2.2.2.2.2.2.2.2.2.2.2.2.2.2.2.2.2.2.2.2.2.2.2.2.2.2.2.2.2.2.2.2.2.2.2.2.2.2.2.2.2.2.2.2.2.1, h.2.2.2.2.2.2.2.2.2.2.2.2.2.2.2.2.2.2.2.2.2.2.2.2.2.2.2.2.2.2.2.2.2.2.2.2.2.2.2.2.2.2.2.2.2.2.2.2.2.2.2.2.2.2.2.2.2.2.2.2.2.2.1, h.2.2.2.2.2.2.2.2.2.2.2.2.2.2.2.2.2.2.2.2.2.2.2.2.2.2.2.2.2.2.2.2.2.2.2.2.2.2.2.2.2.2.2.2.2.2.2.2.2.2.2.2.2.2.2.1, h.2.2.2.2.2.2.2.2.2.2.2.2.2.2.2.2.2.2.2.2.2.2.2.2.2.2.2.2.2.2.2.2.2.2.2.2.2.2.2.2.2.2.2.2.2.2.2.2.2.2.2.2.2.2.2.2.2.2.2.2.2.2.2.2.2.2.2.1, h.2.2.2.2.2.2.2.2.2.2.2.2.2.2.2.2.2.2.2.2.2.2.2.2.2.2.2.2.2.2.2.2.2.2.2.2.2.2.2.2.2.2.2.2.2.2.2.2.2.2.2.2.2.2.2.2.2.2.2.2.2.2.2.2.2.2.2.2.1, h.2.2.2.2.2.2.2.2.2.2.2.2.2.2.2.2.2.2.2.2.2.2.2.2.2.2.2.2.2.2.2.2.2.2.2.2.2.2.2.2.2.2.2.2.2.2.2.2.2.2.2.2.2.2.2.2.2.2.2.2.2.2.2.2.2.2.2.2.2.1, h.2.2.2.2.2.2.2.2.2.2.2.2.2.2.2.2.2.2.2.2.2.2.2.2.2.2.2.2.2.2.2.2.2.2.2.2.2.2.2.2.2.2.2.2.2.2.2.2.2.2.2.2.2.2.2.2.2.2.2.2.2.2.2.2.2.2.2.2.2.2.1, h.2.2.2.2.2.2.2.2.2.2.2.2.2.2.2.2.2.2.2.2.2.2.2.2.2.2.2.2.2.2.2.2.2.2.2.2.2.2.2.2.2.2.2.2.2.2.2.2.2.2.2.2.2.2.2.2.2.2.2.2.2.2.2.2.2.2.2.2.2.2.2.1, h.2.2.2.2.2.2.2.2.2.2.2.2.2.2.2.2.2.2.2.2.2.2.2.2.2.2.2.2.2.2.2.2.2.2.2.2.2.2.2.2.2.2.2.2.2.2.2.2.2.2.2.2.2.2.2.2.2.2.2.2.2.2.2.2.2.2.2.2.2.2.2.2.1, h.2.2.2.2.2.2.2.2.2.2.2.2.2.2.2.2.2.2.2.2.2.2.2.2.2.2.2.2.2.2.2.2.2.2.2.2.2.2.2.2.2.2.2.2.2.2.2.2.2.2.2.2.2.2.2.2.2.2.2.2.2.2.2.1, h.2.2.2.2.2.2.2.2.2.2.2.2.2.2.2.2.2.2.2.2.2.2.2.2.2.2.2.2.2.2.2.2.2.2.2.2.2.2.2.2.2.2.2.2.2.2.2.2.2.2.2.2.2.2.2.2.2.2.2.2.2.2.2.2.1, h.2.2.2.2.2.2.2.2.2.2.2.2.2.2.2.2.2.2.2.2.2.2.2.2.2.2.2.2.2.2.2.2.2.2.2.2.2.2.2.2.2.2.2.2.2.2.2.2.2.2.2.2.2.2.2.2.2.2.2.2.2.2.2.2.2.1, h.2.2.2.2.2.2.2.2.2.2.2.2.2.2.2.2.2.2.2.2.2.2.2.2.2.2.2.2.2.2.2.2.2.2.2.2.2.2.2.2.2.2.2.2.2.2.2.2.2.2.2.2.2.2.2.2.2.2.2.2.2.2.2.2.2.2.1, h.2.2.2.2.2.2.2.2.2.2.2.2.2.2.2.2.2.2.2.2.2.2.2.2.2.2.2.2.2.2.2.2.2.2.2.2.2.2.2.2.2.2.2.2.2.2.2.2.2.2.2.2.2.2.2.2.2.2.2.2.2.2.2.2.2.2.2.2.2.2.2.2.2.1, h.2.2.2.2.2.2.2.2.2.2.2.2.2.2.2.2.2.2.2.2.2.2.2.2.2.2.2.2.2.2.2.2.2.2.2.2.2.2.2.2.2.2.2.2.2.2.2.2.2.2.2.2.2.2.2.2.2.2.2.2.2.2.2.2.2.2.2.2.2.2.2.2.2.2.1⟩⟩
      | inr v => exact absurd hx.1 q4
  · have q3 : ¬ p0.toInt ≤ xtpd.toInt := fun w => q2 (Int32.le_iff_toInt_le.mpr w)
    refine Exists.elim h ?_
    clear h
    intro tr2_106 h
    refine Exists.elim h ?_
    clear h
    intro r_107 h
    obtain ⟨g0_c_refuseX, h⟩ := h
    exact Or.inl ⟨fun w => q3 w.2, h.2.2.2.2.2.2.2.2.2.2.1, ⟨h.2.2.2.2.2.2.2.2.2.2.2.2.2.2.2.2.2.2.2.2.2.2.2.2.2.2.2.2.2.2.2.2.2.2.2.2.2.2.2.2.2.2.2.2.2.2.2.2.2.1, h.2.2.2.2.2.2.2.2.2.2.2.2.2.2.2.2.2.2.2.2.2.2.2.2.2.2.2.2.2.2.2.2.2.2.2.2.2.2.2.2.2.2.2.2.2.2.2.2.2.2.2.2.2.2.2.2.2.1, h.2.2.2.2.2.2.2.2.2.2.2.2.2.2.2.2.2.2.2.2.2.2.2.2.2.2.2.2.2.2.2.2.2.2.2.2.2.2.2.2.2.2.2.2.2.2.2.2.2.2.1, h.2.2.2.2.2.2.2.2.2.2.2.2.2.2.2.2.2.2.2.2.2.2.2.2.2.2.2.2.2.2.2.2.2.2.2.2.2.2.2.2.2.2.2.2.2.2.2.2.2.2.2.2.2.2.2.2.2.2.1, h.2.2.2.2.2.2.2.2.2.2.2.2.2.2.2.2.2.2.2.2.2.2.2.2.2.2.2.2.2.2.2.2.2.2.2.2.2.2.2.2.2.2.2.2.2.2.2.2.2.2.2.1, h.2.2.2.2.2.2.2.2.2.2.2.2.2.2.2.2.2.2.2.2.2.2.2.2.2.2.2.2.2.2.2.2.2.2.2.2.2.2.2.2.2.2.2.2.2.2.2.2.2.2.2.2.2.2.2.2.2.2.2.1, h.2.2.2.2.2.2.2.2.2.2.2.2.2.2.2.2.2.2.2.2.2.2.2.2.2.2.2.2.2.2.2.2.2.2.2.2.2.2.2.2.2.2.2.2.2.2.2.2.2.2.2.2.1, h.2.2.2.2.2.2.2.2.2.2.2.2.2.2.2.2.2.2.2.2.2.2.2.2.2.2.2.2.2.2.2.2.2.2.2.2.2.2.2.2.2.2.2.2.2.2.2.2.2.2.2.2.2.2.2.2.2.2.2.2.1, h.2.2.2.2.2.2.2.2.2.2.2.2.2.2.2.2.2.2.2.2.2.2.2.2.2.2.2.2.2.2.2.2.2.2.2.2.2.2.2.2.2.2.2.2.2.2.2.2.2.2.2.2.2.1, h.2.2.2.2.2.2.2.2.2.2.2.2.2.2.2.2.2.2.2.2.2.2.2.2.2.2.2.2.2.2.2.2.2.2.2.2.2.2.2.2.2.2.2.2.2.2.2.2.2.2.2.2.2.2.2.2.2.2.2.2.2.1, h.2.2.2.2.2.2.2.2.2.2.2.2.2.2.2.2.2.2.2.2.2.2.2.2.2.2.2.2.2.2.2.2.2.2.2.2.2.2.2.2.2.2.2.2.2.2.2.2.2.2.2.2.2.2.1, h.2.2.2.2.2.2.2.2.2.2.2.2.2.2.2.2.2.2.2.2.2.2.2.2.2.2.2.2.2.2.2.2.2.2.2.2.2.2.2.2.2.2.2.2.2.2.2.2.2.2.2.2.2.2.2.2.2.2.2.2.2.2.1, h.2.2.2.2.2.2.2.2.2.2.2.2.2.2.2.2.2.2.2.2.2.2.2.2.2.2.2.2.2.2.2.2.2.2.2.2.2.2.2.2.2.2.2.2.2.2.2.2.2.2.2.2.2.2.2.1, h.2.2.2.2.2.2.2.2.2.2.2.2.2.2.2.2.2.2.2.2.2.2.2.2.2.2.2.2.2.2.2.2.2.2.2.2.2.2.2.2.2.2.2.2.2.2.2.2.2.2.2.2.2.2.2.2.2.2.2.2.2.2.2.2.2.2.2.1, h.2.2.2.2.2.2.2.2.2.2.2.2.2.2.2.2.2.2.2.2.2.2.2.2.2.2.2.2.2.2.2.2.2.2.2.2.2.2.2.2.2.2.2.2.2.2.2.2.2.2.2.2.2.2.2.2.2.2.2.2.2.2.2.2.2.2.2.2.1, h.2.2.2.2.2.2.2.2.2.2.2.2.2.2.2.2.2.2.2.2.2.2.2.2.2.2.2.2.2.2.2.2.2.2.2.2.2.2.2.2.2.2.2.2.2.2.2.2.2.2.2.2.2.2.2.2.2.2.2.2.2.2.2.2.2.2.2.2.2.1, h.2.2.2.2.2.2.2.2.2.2.2.2.2.2.2.2.2.2.2.2.2.2.2.2.2.2.2.2.2.2.2.2.2.2.2.2.2.2.2.2.2.2.2.2.2.2.2.2.2.2.2.2.2.2.2.2.2.2.2.2.2.2.2.2.2.2.2.2.2.2.1, h.2.2.2.2.2.2.2.2.2.2.2.2.2.2.2.2.2.2.2.2.2.2.2.2.2.2.2.2.2.2.2.2.2.2.2.2.2.2.2.2.2.2.2.2.2.2.2.2.2.2.2.2.2.2.2.2.2.2.2.2.2.2.2.2.2.2.2.2.2.2.2.1, h.2.2.2.2.2.2.2.2.2.2.2.2.2.2.2.2.2.2.2.2.2.2.2.2.2.2.2.2.2.2.2.2.2.2.2.2.2.2.2.2.2.2.2.2.2.2.2.2.2.2.2.2.2.2.2.2.2.2.2.2.2.2.2.2.2.2.2.2.2.2.2.2.1, h.2.2.2.2.2.2.2.2.2.2.2.2.2.2.2.2.2.2.2.2.2.2.2.2.2.2.2.2.2.2.2.2.2.2.2.2.2.2.2.2.2.2.2.2.2.2.2.2.2.2.2.2.2.2.2.2.2.2.2.2.2.2.2.1, h.2.2.2.2.2.2.2.2.2.2.2.2.2.2.2.2.2.2.2.2.2.2.2.2.2.2.2.2.2.2.2.2.2.2.2.2.2.2.2.2.2.2.2.2.2.2.2.2.2.2.2.2.2.2.2.2.2.2.2.2.2.2.2.2.1, h.2.2.2.2.2.2.2.2.2.2.2.2.2.2.2.2.2.2.2.2.2.2.2.2.2.2.2.2.2.2.2.2.2.2.2.2.2.2.2.2.2.2.2.2.2.2.2.2.2.2.2.2.2.2.2.2.2.2.2.2.2.2.2.2.2.1, h.2.2.2.2.2.2.2.2.2.2.2.2.2.2.2.2.2.2.2.2.2.2.2.2.2.2.2.2.2.2.2.2.2.2.2.2.2.2.2.2.2.2.2.2.2.2.2.2.2.2.2.2.2.2.2.2.2.2.2.2.2.2.2.2.2.2.1, h.2.2.2.2.2.2.2.2.2.2.2.2.2.2.2.2.2.2.2.2.2.2.2.2.2.2.2.2.2.2.2.2.2.2.2.2.2.2.2.2.2.2.2.2.2.2.2.2.2.2.2.2.2.2.2.2.2.2.2.2.2.2.2.2.2.2.2.2.2.2.2.2.2.1, h.2.2.2.2.2.2.2.2.2.2.2.2.2.2.2.2.2.2.2.2.2.2.2.2.2.2.2.2.2.2.2.2.2.2.2.2.2.2.2.2.2.2.2.2.2.2.2.2.2.2.2.2.2.2.2.2.2.2.2.2.2.2.2.2.2.2.2.2.2.2.2.2.2.2.1⟩⟩

def HMS (n t : Int32) (T R S : Nat → Int32) (un im hh t2 : Int32) (R2 S2 : Nat → Int32) (un2 im2 hh2 : Int32) : Prop := (¬ (0 ≤ n.toInt ∧ n.toInt ≤ t.toInt) ∧ t2 = t ∧ R2 = R ∧ S2 = S ∧ un2 = un ∧ im2 = im ∧ hh2 = hh) ∨ ((0 ≤ n.toInt ∧ n.toInt ≤ t.toInt) ∧ ∃ F0 : Nat → Int32, (∀ i : Nat, i < 311 → F0 i = 0) ∧ ∀ (k : Nat) (ρ : Rs ((Nat → Int32) × Int32)), TxR T n k F0 (rn T n 5 0) ρ → t2 = 0 ∧ ((∃ e : Int32 × Int32, ρ = .inl e ∧ R2 = R ∧ S2 = S ∧ un2 = un ∧ im2 = im ∧ hh2 = hh) ∨ (∃ v : (Nat → Int32) × Int32, ρ = .inr v ∧ hh2 = 1 ∧ (∀ i : Nat, i < 311 → R2 i = v.1 i) ∧ un2 = 0 ∧ im2 = 0 ∧ (FIv v.1 → IV (v.1 12) 0 8 → StF v.1 S2))))
theorem qm_houseS {p0 m_taped m_size m_at m_end m_token m_whole m_nameSize m_fault m_place m_failed m_hasHouse m_undos m_images : Int32} {d_tape d_letters d_r d_fresh d_st : Nat → Int32} {m_at2 m_end2 m_failed2 m_fault2 : Int32} {d_fresh2 : Nat → Int32} {m_hasHouse2 m_images2 : Int32} {d_letters2 : Nat → Int32} {m_nameSize2 m_place2 : Int32} {d_r2 : Nat → Int32} {m_size2 : Int32} {d_st2 : Nat → Int32} {m_taped2 m_thrown2 m_token2 m_trouble2 m_undos2 m_whole2 r : Int32} (hn : IV m_taped 0 900) (h : R_m_houseX p0 m_taped m_size m_at m_end m_token m_whole m_nameSize m_fault m_place m_failed m_hasHouse m_undos m_images d_tape d_letters d_r d_fresh d_st m_at2 m_end2 m_failed2 m_fault2 d_fresh2 m_hasHouse2 m_images2 d_letters2 m_nameSize2 m_place2 d_r2 m_size2 d_st2 m_taped2 m_thrown2 m_token2 m_trouble2 m_undos2 m_whole2 r) : HMS p0 m_taped d_tape d_r d_st m_undos m_images m_hasHouse m_taped2 d_r2 d_st2 m_undos2 m_images2 m_hasHouse2 := by
  rcases qm_house hn h with ⟨q, -, -, -, h3, -, -, -, h4, h5, h6, h7, h8⟩ | ⟨q, F0, hF, h⟩
  · exact Or.inl ⟨q, h3, h5, h6, h7, h8, h4⟩
  · refine Or.inr ⟨q, F0, hF, fun k ρ hk => ?_⟩
    obtain ⟨-, h1, -, h⟩ := h k ρ hk
    refine ⟨h1, ?_⟩
    rcases h with ⟨e, e1, -, -, -, -, e2, e3, e4, e5, e6⟩ | ⟨v, e1, -, -, -, e2, e3, e4, e5, e6⟩
    · exact Or.inl ⟨e, e1, e3, e4, e5, e6, e2⟩
    · exact Or.inr ⟨v, e1, e2, e3, e4, e5, e6⟩

set_option maxRecDepth 100000
set_option maxHeartbeats 4000000
/-! relations as functions: choices and loops that count up -/
theorem goI {c P Q : Prop} [d : Decidable c] : ((c ∧ P) ∨ (¬ c ∧ Q)) ↔ (if c then P else Q) := by
  by_cases h : c
  · rw [if_pos h]; exact ⟨fun q => q.elim (fun z => z.2) (fun z => absurd h z.1), fun q => Or.inl ⟨h, q⟩⟩
  · rw [if_neg h]; exact ⟨fun q => q.elim (fun z => absurd z.1 h) (fun z => z.2), fun q => Or.inr ⟨h, q⟩⟩
theorem goN {c P Q : Prop} [d : Decidable c] : ((¬ c ∧ P) ∨ (c ∧ Q)) ↔ (if c then Q else P) := by
  by_cases h : c
  · rw [if_pos h]; exact ⟨fun q => q.elim (fun z => absurd h z.1) (fun z => z.2), fun q => Or.inr ⟨h, q⟩⟩
  · rw [if_neg h]; exact ⟨fun q => q.elim (fun z => z.2) (fun z => absurd z.1 h), fun q => Or.inl ⟨h, q⟩⟩
theorem iteE {α : Type} {c : Prop} [d : Decidable c] {r a b : α} : (if c then r = a else r = b) ↔ r = (if c then a else b) := by
  by_cases h : c
  · rw [if_pos h, if_pos h]
  · rw [if_neg h, if_neg h]
theorem nI_s {m : Nat} (h : m < 100000) : nI m + Int32.ofInt 1 = nI (m + 1) := Int32.toInt_inj.mp (by
  rw [ofI1, addI (by rw [nI_toInt (by omega), oneI]; omega) (by rw [nI_toInt (by omega), oneI]; omega), nI_toInt (by omega), nI_toInt (by omega), oneI]; omega)
theorem nI_s1 {m : Nat} (h : m < 100000) : nI m + 1 = nI (m + 1) := by rw [← ofI1]; exact nI_s h
theorem nI_gE {N m : Nat} (hN : N < 100000) (hm : m < 100000) : nI N ≤ nI m ↔ N ≤ m := by
  rw [le_I, nI_toInt (by omega), nI_toInt (by omega)]; omega
theorem nI_nge {N m : Nat} (hN : N < 100000) (h : m < N) : ¬ nI N ≤ nI m := by
  rw [nI_gE hN (by omega)]; omega
theorem nI_c {m : Nat} (h : m < 100000) : (nI m).toNatClampNeg = m := nI_clamp (by omega)
theorem nI_oF {x : Int32} (h : 0 ≤ x.toInt) : ∃ k : Nat, x = nI k ∧ x.toInt = k := ⟨x.toInt.toNat, (nI_back h).symm, by omega⟩
theorem nI_inj {a b : Nat} (ha : a < 100000) (hb : b < 100000) (h : nI a = nI b) : a = b := by
  have := congrArg Int32.toInt h
  rw [nI_toInt (by omega), nI_toInt (by omega)] at this
  omega
/-- a step for each number from m on -/
def fo {A : Type} (st : Nat → A → A) : Nat → Nat → A → A
  | _, 0, a => a
  | m, k + 1, a => fo st (m + 1) k (st m a)
theorem lp {A : Type} {L : Nat → A → Int32 → Prop} {κ : A → Prop} {st : Nat → A → A} {N : Nat} (h0 : ∀ a u, ¬ L 0 a u) (hE : ∀ n a, L (n + 1) a (nI N) ↔ κ a) (hS : ∀ n a m, m < N → (L (n + 1) a (nI m) ↔ L n (st m a) (nI (m + 1)))) : ∀ k m n a, m + k = N → (L n a (nI m) ↔ k < n ∧ κ (fo st m k a)) := by
  intro k
  induction k with
  | zero =>
    intro m n a hm
    obtain rfl : m = N := by omega
    cases n with
    | zero => exact ⟨fun h => absurd h (h0 _ _), fun h => absurd h.1 (Nat.lt_irrefl 0)⟩
    | succ n => exact (hE n a).trans ⟨fun h => ⟨Nat.succ_pos n, h⟩, fun h => h.2⟩
  | succ k ih =>
    intro m n a hm
    cases n with
    | zero => exact ⟨fun h => absurd h (h0 _ _), fun h => absurd h.1 (Nat.not_lt_zero _)⟩
    | succ n => exact (hS n a m (by omega)).trans ((ih (m + 1) n (st m a) (by omega)).trans ⟨fun h => ⟨Nat.succ_lt_succ h.1, h.2⟩, fun h => ⟨Nat.lt_of_succ_lt_succ h.1, h.2⟩⟩)
theorem lpE {A : Type} {L : Nat → A → Int32 → Prop} {κ : A → Prop} {st : Nat → A → A} {N : Nat} (h0 : ∀ a u, ¬ L 0 a u) (hE : ∀ n a, L (n + 1) a (nI N) ↔ κ a) (hS : ∀ n a m, m < N → (L (n + 1) a (nI m) ↔ L n (st m a) (nI (m + 1)))) (a : A) : (∃ n, L n a 0) ↔ κ (fo st 0 N a) := by
  have e := lp h0 hE hS N 0
  rw [nI_0] at e
  exact ⟨fun ⟨n, h⟩ => ((e n a (by omega)).mp h).2, fun h => ⟨N + 1, (e (N + 1) a (by omega)).mpr ⟨by omega, h⟩⟩⟩
/-- the first that is so -/
def ff (c : Nat → Prop) [DecidablePred c] (v : Nat → Int32) (d : Int32) : Nat → Nat → Int32
  | _, 0 => d
  | m, k + 1 => if c m then v m else ff c v d (m + 1) k
theorem lpF {L : Nat → Int32 → Prop} {c : Nat → Prop} [DecidablePred c] {v : Nat → Int32} {d r : Int32} {N : Nat} (h0 : ∀ u, ¬ L 0 u) (hE : ∀ n, L (n + 1) (nI N) ↔ r = d) (hS : ∀ n m, m < N → (L (n + 1) (nI m) ↔ if c m then r = v m else L n (nI (m + 1)))) : (∃ n, L n 0) ↔ r = ff c v d 0 N := by
  have key : ∀ k m, m + k = N → (∀ n, k < n → (L n (nI m) ↔ r = ff c v d m k)) ∧ (∀ n, L n (nI m) → r = ff c v d m k) := by
    intro k
    induction k with
    | zero =>
      intro m hm
      obtain rfl : m = N := by omega
      refine ⟨fun n hn => ?_, fun n h => ?_⟩
      · cases n with
        | zero => omega
        | succ n => exact hE n
      · cases n with
        | zero => exact absurd h (h0 _)
        | succ n => exact (hE n).mp h
    | succ k ih =>
      intro m hm
      obtain ⟨i1, i2⟩ := ih (m + 1) (by omega)
      show (∀ n, k + 1 < n → (L n (nI m) ↔ r = (if c m then v m else ff c v d (m + 1) k))) ∧ (∀ n, L n (nI m) → r = (if c m then v m else ff c v d (m + 1) k))
      refine ⟨fun n hn => ?_, fun n h => ?_⟩
      · cases n with
        | zero => omega
        | succ n =>
          rw [hS n m (by omega)]
          by_cases q : c m
          · rw [if_pos q, if_pos q]
          · rw [if_neg q, if_neg q]; exact i1 n (by omega)
      · cases n with
        | zero => exact absurd h (h0 _)
        | succ n =>
          rw [hS n m (by omega)] at h
          by_cases q : c m
          · rw [if_pos q] at h; rw [if_pos q]; exact h
          · rw [if_neg q] at h; rw [if_neg q]; exact i2 n h
  have e := key N 0 (by first | decide | omega)
  rw [nI_0] at e
  exact ⟨fun ⟨n, h⟩ => e.2 n h, fun h => ⟨N + 1, (e.1 (N + 1) (by omega)).mpr h⟩⟩
/-- a place of a table by whole numbers -/
theorem tbN {R V c : Int32} {f : Nat → Int32} {m j a b : Nat} (hR : R.toInt = a) (hV : V.toInt = b) (ha : a ≤ 1000) (hb : b ≤ 1000) (hc : c.toInt = j) (hm : m < a) (hj : j < b) : tbAt R V f (nI m) c = f (b * m + j) := by
  have e : (nI m).toInt = m := nI_toInt (by omega)
  rw [tbAt_in (by omega) (by omega) (by omega) (by omega), e, hV, hc]
  congr 1
  rw [Int.toNat_natCast, Int.toNat_natCast, Int.toNat_natCast, Nat.mul_comm]
theorem ixG {b w c : Int32} {B W C k : Nat} (hb : b.toInt = B) (hw : w.toInt = W) (hc : c.toInt = C) (hB : B ≤ 1000) (hW : W ≤ 100) (hC : C ≤ 1000) (hk : k ≤ 1000) : (b + w * nI k + c).toNatClampNeg = B + W * k + C := by
  have h1 : W * k ≤ 100 * 1000 := Nat.mul_le_mul hW hk
  have e0 : (nI k).toInt = k := nI_toInt (by omega)
  have hp : (W : Int) * k = ((W * k : Nat) : Int) := by rw [Int.natCast_mul]
  have e1 : (w * nI k).toInt = (W * k : Nat) := by rw [mulI (by rw [hw, e0, hp]; omega) (by rw [hw, e0, hp]; omega), hw, e0, hp]
  have e2 : (b + w * nI k).toInt = (B + W * k : Nat) := by rw [addI (by rw [hb, e1]; omega) (by rw [hb, e1]; omega), hb, e1]; omega
  have e3 : (b + w * nI k + c).toInt = (B + W * k + C : Nat) := by rw [addI (by rw [hc, e2]; omega) (by rw [hc, e2]; omega), hc, e2]; omega
  exact tnz e3
theorem ixH {b w : Int32} {B W k : Nat} (hb : b.toInt = B) (hw : w.toInt = W) (hB : B ≤ 1000) (hW : W ≤ 100) (hk : k ≤ 1000) : (b + w * nI k).toNatClampNeg = B + W * k := by
  have h := ixG (c := 0) (C := 0) hb hw (by decide) hB hW (by omega) hk
  rw [Int32.add_zero] at h
  exact h
theorem ixJ {b : Int32} {B k : Nat} (hb : b.toInt = B) (hB : B ≤ 1000) (hk : k ≤ 1000) : (b + nI k).toNatClampNeg = B + k := by
  have h := ixH (w := 1) (W := 1) hb (by decide) hB (by omega) hk
  rw [Int32.one_mul, Nat.one_mul] at h
  exact h
theorem ix_44_3_0 {k : Nat} (hk : k ≤ 1000) : ((44 : Int32) + ((3 : Int32) * nI k)).toNatClampNeg = 44 + 3 * k := ixH (by decide) (by decide) (by omega) (by omega) hk
theorem ix_44_3_2 {k : Nat} (hk : k ≤ 1000) : (((44 : Int32) + ((3 : Int32) * nI k)) + (2 : Int32)).toNatClampNeg = 44 + 3 * k + 2 := ixG (by decide) (by decide) (by decide) (by omega) (by omega) (by omega) hk
theorem ix_114_3_0 {k : Nat} (hk : k ≤ 1000) : ((114 : Int32) + ((3 : Int32) * nI k)).toNatClampNeg = 114 + 3 * k := ixH (by decide) (by decide) (by omega) (by omega) hk
theorem ix_114_3_1 {k : Nat} (hk : k ≤ 1000) : (((114 : Int32) + ((3 : Int32) * nI k)) + (1 : Int32)).toNatClampNeg = 114 + 3 * k + 1 := ixG (by decide) (by decide) (by decide) (by omega) (by omega) (by omega) hk
theorem ix_114_3_2 {k : Nat} (hk : k ≤ 1000) : (((114 : Int32) + ((3 : Int32) * nI k)) + (2 : Int32)).toNatClampNeg = 114 + 3 * k + 2 := ixG (by decide) (by decide) (by decide) (by omega) (by omega) (by omega) hk
theorem ix_0 {k : Nat} (hk : k ≤ 1000) : ((0 : Int32) + nI k).toNatClampNeg = 0 + k := ixJ (by decide) (by omega) hk
theorem ix_8 {k : Nat} (hk : k ≤ 1000) : ((8 : Int32) + nI k).toNatClampNeg = 8 + k := ixJ (by decide) (by omega) hk
theorem ix_16 {k : Nat} (hk : k ≤ 1000) : ((16 : Int32) + nI k).toNatClampNeg = 16 + k := ixJ (by decide) (by omega) hk
theorem ix_126 {k : Nat} (hk : k ≤ 1000) : ((126 : Int32) + nI k).toNatClampNeg = 126 + k := ixJ (by decide) (by omega) hk
theorem tc_0 : (0 : Int32).toNatClampNeg = 0 := by decide
theorem tc_1 : (1 : Int32).toNatClampNeg = 1 := by decide
theorem tc_8 : (8 : Int32).toNatClampNeg = 8 := by decide
theorem tc_11 : (11 : Int32).toNatClampNeg = 11 := by decide
theorem tc_12 : (12 : Int32).toNatClampNeg = 12 := by decide
theorem ite01 {c : Prop} [d : Decidable c] : ((if c then (0 : Int32) else 1) = 0) ↔ c := by
  by_cases h : c
  · rw [if_pos h]; exact ⟨fun _ => h, fun _ => rfl⟩
  · rw [if_neg h]; exact ⟨fun q => absurd q (by decide), fun q => absurd q h⟩
theorem lr_mark {p q r : Int32} {F S : Nat → Int32} {N : Nat} (hN : N ≤ 12) (hF : F 8 = nI N) : R_m_markOfX p q F S r ↔ r = ff (fun k => F (44 + 3 * k) = p ∧ F (44 + 3 * k + 2) = q) (fun k => S (16 + k)) (-2) 0 N := by
  unfold R_m_markOfX
  refine lpF (L := fun t u => R_m_markOfX_L0 p q F S r (r = -2) t u) (fun u h => h) (fun t => ?_) (fun t m hm => ?_)
  · show R_m_markOfX_L0 p q F S r (r = -2) (t + 1) (nI N) ↔ r = -2
    rw [R_m_markOfX_L0]
    simp only [exists_eq_left, tc_8, hF]
    rw [goI, if_pos (Int32.le_refl _)]
  · have hm9 : m ≤ 1000 := by omega
    have hm8 : m < 100000 := by omega
    show R_m_markOfX_L0 p q F S r (r = -2) (t + 1) (nI m) ↔ (if F (44 + 3 * m) = p ∧ F (44 + 3 * m + 2) = q then r = S (16 + m) else R_m_markOfX_L0 p q F S r (r = -2) t (nI (m + 1)))
    rw [R_m_markOfX_L0]
    simp only [exists_eq_left, tc_8, hF]
    rw [goI, if_neg (nI_nge (by omega) hm)]
    simp only [exists_eq_left, exists_eq_left', ne_eq, goN, ofI1, nI_s1 hm8, ix_44_3_0 hm9, ix_44_3_2 hm9, ix_16 hm9]
    by_cases q0 : F (44 + 3 * m) = p <;> by_cases q1 : F (44 + 3 * m + 2) = q <;> simp only [q0, q1, if_true, if_false, ↓reduceIte, not_true_eq_false, not_false_eq_true, and_true, and_false, true_and, false_and, Int32.add_zero, Int32.sub_zero]

set_option maxRecDepth 100000
set_option maxHeartbeats 4000000
/-! what shows the state: reel, mark, shows, thread, missing, words -/
theorem ivN (a : Nat) {x : Int32} {b : Int} (h : IV x 0 b) (e0 : b = (a : Int) := by omega) : ∃ N : Nat, x = nI N ∧ N ≤ a := by
  obtain ⟨k, e, hk⟩ := nI_oF h.1
  have := h.2
  exact ⟨k, e, by omega⟩
theorem inX {p a b r : Int32} : R_m_inX p a b r ↔ r = (if p < a ∨ b < p then 0 else 1) := by
  unfold R_m_inX
  rw [goI, goI, iteE, iteE]
  by_cases q : p < a
  · rw [if_pos q, if_pos (Or.inl q)]
  · rw [if_neg q]
    by_cases q2 : b < p
    · rw [if_pos q2, if_pos (Or.inr q2)]
    · rw [if_neg q2, if_neg (fun w => w.elim q q2)]
theorem lt_s1 {x p : Int32} (h : IV x 0 900) : x - 1 < p ↔ x ≤ p := by
  have e := sub1 (z := x - 1) h rfl
  rw [lt_I, le_I, e]; omega
theorem noP (p : Int32) : p < 0 ∨ (0 : Int32) ≤ p := by rw [lt_I, le_I]; omega
theorem isAny {p hh x z r : Int32} (hb : IV x 0 900) (h0 : hh = 0 → x = 0) (h : ((hh = (0 : Int32)) ∧ (r = 0)) ∨ ((¬ (hh = (0 : Int32))) ∧ (∃ z_4 : Int32, z_4 = x ∧ ∃ z_7 : Int32, z_7 = z_4 - (1 : Int32) ∧ ∃ r_10 : Int32, (R_m_inX p 0 z_7 r_10) ∧ (((r_10 = (0 : Int32)) ∧ (r = 0)) ∨ ((¬ (r_10 = (0 : Int32))) ∧ (r = 1)))))) : r = (if p < 0 ∨ x ≤ p then 0 else 1) := by
  simp only [exists_eq_left, inX, goI, ite01, iteE, lt_s1 hb] at h
  by_cases q : hh = 0
  · rw [if_pos q] at h
    rw [h, h0 q, if_pos (noP p)]
  · rw [if_neg q] at h
    exact h
theorem isPlaceX {F : Nat → Int32} {p hh r : Int32} (hb : IV (F 12) 0 8) (h0 : hh = 0 → F 12 = 0) (h : R_m_isPlaceX p hh F r) : r = (if p < 0 ∨ F 12 ≤ p then 0 else 1) := by
  unfold R_m_isPlaceX at h
  rw [tc_12] at h
  exact isAny (z := 0) (iv_w hb (by decide) (by decide)) h0 h
theorem of_C {p n : Int32} {N : Nat} (hn : n = nI N) (hN : N ≤ 1000) (h : ¬ (p < 0 ∨ n ≤ p)) : ∃ k : Nat, p = nI k ∧ k < N ∧ (k : Int) < n.toInt := by
  subst hn
  rw [lt_I, le_I, zI, nI_toInt (by omega)] at h
  obtain ⟨k, e, hk⟩ := nI_oF (x := p) (by omega)
  exact ⟨k, e, by omega, by rw [nI_toInt (by omega)]; omega⟩

set_option maxRecDepth 100000
set_option maxHeartbeats 4000000
/-! what the acts keep: between what the State's numbers lie (SB), of the State, of undo's rows and of the images; nothing without a house -/
def SB (F S : Nat → Int32) : Prop :=
  (∀ k : Nat, (k : Int) < (F 6).toInt → IV (S k) 2 2000 ∧ 0 ≤ (S (8 + k)).toInt ∧ (S (8 + k)).toInt < (S k).toInt) ∧
  (∀ k : Nat, (k : Int) < (F 8).toInt → 0 ≤ (S (16 + k)).toInt ∧ (S (16 + k)).toInt < (S (F (44 + 3 * k)).toInt.toNat).toInt) ∧
  (∀ k : Nat, (k : Int) < (F 10).toInt → 0 ≤ (S (28 + k)).toInt ∧ (S (28 + k)).toInt < (S (F (96 + 3 * k)).toInt.toNat).toInt) ∧
  (∀ k : Nat, (k : Int) < (F 12).toInt → IV (S (34 + k)) 0 199) ∧ IV (S 42) 0 255 ∧ IV (S 43) 0 63
theorem SB.row {F S S2 : Nat → Int32} (hF : FB F) (hR : RV0 F) (h : SB F S) (e : ∀ i : Nat, i < 44 → S2 i = S i) : SB F S2 := by
  obtain ⟨h1, h2, h3, h4, h5, h6⟩ := h
  obtain ⟨c1, c2, c3, c4, c5, c6, c7⟩ := hR
  obtain ⟨⟨-, b1⟩, ⟨-, b2⟩, ⟨-, b3⟩, ⟨-, b4⟩⟩ := hF
  refine ⟨fun k hk => ?_, fun k hk => ?_, fun k hk => ?_, fun k hk => ?_, by rw [e 42 (by first | decide | omega)]; exact h5, by rw [e 43 (by first | decide | omega)]; exact h6⟩
  · rw [e k (by omega), e (8 + k) (by omega)]; exact h1 k hk
  · have r1 := c1 k hk
    unfold Lt at r1
    rw [e (16 + k) (by omega), e _ (by omega)]; exact h2 k hk
  · have r1 := c4 k hk
    unfold Lt at r1
    rw [e (28 + k) (by omega), e _ (by omega)]; exact h3 k hk
  · rw [e (34 + k) (by omega)]; exact h4 k hk
def KB (F U : Nat → Int32) (n : Int32) : Prop := ∀ i : Nat, (i : Int) < n.toInt → SB F (fun j => U (44 * i + j))
/-- of the reference alone: the State, undo's rows, the images; all is 0 without a house -/
def SK (F S U X : Nat → Int32) (un im hh : Int32) : Prop := SB F S ∧ KB F U un ∧ KB F X im ∧ IV un 0 12 ∧ IV im 0 3 ∧ (hh = 0 → (∀ i : Nat, i < 167 → F i = 0) ∧ S 42 = 0 ∧ S 43 = 0 ∧ un = 0 ∧ im = 0)
theorem KB_note {F S U U2 : Nat → Int32} {un un2 : Int32} (hF : FB F) (hR : RV0 F) (hS : SB F S) (hU : KB F U un) (hi : IV un 0 12) (hm : R_m_noteX un S U U2 un2) : KB F U2 un2 ∧ IV un2 0 12 := by
  have o1 : (1 : Int32).toInt = 1 := by decide
  have o12 : (12 : Int32).toInt = 12 := by decide
  obtain ⟨a, ha⟩ : ∃ a : Nat, un.toInt = a := ⟨un.toInt.toNat, by have := hi.1; omega⟩
  rw [IV, ha] at hi
  unfold R_m_noteX at hm
  rcases hm with ⟨n12, z3, h3, f6, hcp2, z9, h9, rfl, rfl⟩ | ⟨y12, n0, hL⟩
  · have a12 : a ≠ 12 := fun q => n12 (Int32.toInt_inj.mp (by rw [ha, o12, q]; rfl))
    have t9 : un2.toInt = a + 1 := by rw [h9, Int32.toInt_add, ha, o1, Int.bmod_eq_of_le (by omega) (by omega)]
    obtain ⟨c1, c2⟩ := cpA (mul44 ha (by omega) h3) (by omega) hcp2
    refine ⟨fun i hi => ?_, by rw [IV, t9]; omega⟩
    by_cases q : i = a
    · subst q
      exact SB.row hF hR hS (fun j hj => c1 j hj)
    · exact SB.row hF hR (hU i (by omega)) (fun j hj => c2 _ (Or.inl (by omega)))
  · have a12 : a = 12 := by rw [y12, o12] at ha; omega
    subst a12
    obtain ⟨f3, ⟨z22, h22, z25, h25, f28, hcp2, z31, h31, rfl, rfl⟩, hs⟩ := note_L n0 U 0 0 (by decide) (by omega) (fun i hi => by omega) (fun i _ => rfl) hL
    have t22 : z22.toInt = (11 : Nat) := by rw [h22, Int32.toInt_sub, ha, o1, Int.bmod_eq_of_le (by omega) (by omega)]; rfl
    have t31 : un2.toInt = 12 := by rw [h31, Int32.toInt_add, t22, o1, Int.bmod_eq_of_le (by omega) (by omega)]; rfl
    obtain ⟨c1, c2⟩ := cpA (mul44 t22 (by omega) h25) (by omega) hcp2
    refine ⟨fun i hi => ?_, by rw [IV, t31]; omega⟩
    by_cases q : i = 11
    · subst q
      exact SB.row hF hR hS (fun j hj => c1 j hj)
    · refine SB.row hF hR (hU (i + 1) (by omega)) (fun j hj => ?_)
      show U2 (44 * i + j) = U (44 * (i + 1) + j)
      rw [c2 _ (Or.inl (by omega)), hs _ (by omega)]
      congr 1
      omega
theorem SK_threads {F S U X S2 U2 : Nat → Int32} {un im hh p0 p1 th tm un2 r : Int32} (hF : FB F) (hR : RV0 F) (h0 : hh = 0 → F 12 = 0) (h : SK F S U X un im hh) (hm : R_m_threadsX p0 p1 hh un F S U S2 th tm U2 un2 r) : SK F S2 U2 X un2 im hh := by
  have h' := h
  obtain ⟨hS, hU, hX, i1, i2, hz⟩ := h
  have o199 : (199 : Int32).toInt = 199 := by decide
  unfold R_m_threadsX R_m_goodX at hm
  obtain ⟨t1, t2, ⟨rfl, rfl⟩, r5, hr5, hm⟩ := hm
  rcases isPlace_or hF h0 hr5 with ⟨w1, w2, w3⟩ | ⟨w1, w2⟩
  · rcases hm with ⟨-, r14, hr14, hm⟩ | ⟨w, -⟩
    case inr => rw [w1] at w; exact absurd w (by decide)
    rcases hm with ⟨w, z, hz1, y, hy1, hm⟩ | ⟨-, tm_, rm_, ⟨d3, d4⟩, rfl, rfl, rfl, rfl, rfl, rfl⟩
    case inr => exact h'
    rcases in_or hr14 with ⟨g1, g2, g3⟩ | ⟨g1, g2⟩
    case inr => exact absurd g1 w
    rcases hm with ⟨-, u1, v1, hnt, rfl, rfl, rfl, rfl, rfl, rfl⟩ | ⟨-, tm_, rm_, ⟨d3, d4⟩, rfl, rfl, rfl, rfl, rfl, rfl⟩
    case inr => exact h'
    obtain ⟨k1, k2⟩ := KB_note hF hR hS hU i1 hnt
    have hh0 : hh ≠ 0 := fun q => by rw [h0 q, zI] at w3; omega
    refine ⟨?_, k1, hX, k2, i2, fun q => absurd q hh0⟩
    obtain ⟨k, rfl, hk⟩ := nI_oF w2
    obtain ⟨⟨-, b1⟩, ⟨-, b2⟩, ⟨-, b3⟩, ⟨-, b4⟩⟩ := hF
    rw [hk] at w3
    have ez : z.toNatClampNeg = 34 + k := by rw [hz1]; exact addz (by decide) hk (by omega) rfl
    rw [ez]
    obtain ⟨s1, s2, s3, s4, s5, s6⟩ := hS
    obtain ⟨c1, c2, c3, c4, c5, c6, c7⟩ := hR
    rw [zI] at g2
    rw [o199] at g3
    refine ⟨fun j hj => ?_, fun j hj => ?_, fun j hj => ?_, fun j hj => ?_, by rw [upd_ne (by omega)]; exact s5, by rw [upd_ne (by omega)]; exact s6⟩
    · rw [upd_ne (by omega), upd_ne (by omega)]; exact s1 j hj
    · have q := c1 j hj
      unfold Lt at q
      rw [upd_ne (by omega), upd_ne (by omega)]; exact s2 j hj
    · have q := c4 j hj
      unfold Lt at q
      rw [upd_ne (by omega), upd_ne (by omega)]; exact s3 j hj
    · by_cases e : j = k
      · subst e; rw [upd_at]; exact ⟨g2, g3⟩
      · rw [upd_ne (by omega)]; exact s4 j hj
  · rcases hm with ⟨w, -⟩ | ⟨-, tm_, rm_, ⟨d3, d4⟩, rfl, rfl, rfl, rfl, rfl, rfl⟩
    · exact absurd w1 w
    exact h'
theorem xor8 : ∀ a : Fin 256, ∀ k : Fin 8, 0 ≤ (nI a.1 ^^^ (1 : Int32) <<< (nI k.1 &&& 31)).toInt ∧ (nI a.1 ^^^ (1 : Int32) <<< (nI k.1 &&& 31)).toInt ≤ 255 := by decide +kernel
theorem or6 : ∀ a : Fin 64, ∀ k : Fin 6, 0 ≤ (nI a.1 ||| (1 : Int32) <<< (nI k.1 &&& 31)).toInt ∧ (nI a.1 ||| (1 : Int32) <<< (nI k.1 &&& 31)).toInt ≤ 63 := by decide +kernel
theorem SK_trim {F S U X S2 U2 : Nat → Int32} {un im hh p0 p1 th tm un2 r : Int32} (hF : FB F) (hR : RV0 F) (h0 : hh = 0 → F 12 = 0) (h : SK F S U X un im hh) (hm : R_m_trimX p0 p1 hh un F S U S2 th tm U2 un2 r) : SK F S2 U2 X un2 im hh := by
  have h' := h
  obtain ⟨hS, hU, hX, i1, i2, hz⟩ := h
  have n42 : (42 : Int32).toNatClampNeg = 42 := by decide
  unfold R_m_trimX R_m_goodX at hm
  obtain ⟨t1, t2, ⟨rfl, rfl⟩, r5, hr5, hm⟩ := hm
  rcases isPlace_or hF h0 hr5 with ⟨w1, w2, w3⟩ | ⟨w1, w2⟩
  · rcases hm with ⟨-, z14, hz14, r15, hr15, hm⟩ | ⟨w, -⟩
    case inr => rw [w1] at w; exact absurd w (by decide)
    rcases hm with ⟨-, u1, v1, hnt, z24, hz24, z26, hz26, rfl, rfl, rfl, rfl, rfl, rfl⟩ | ⟨-, tm_, rm_, ⟨d3, d4⟩, rfl, rfl, rfl, rfl, rfl, rfl⟩
    case inr => exact h'
    obtain ⟨k1, k2⟩ := KB_note hF hR hS hU i1 hnt
    have hh0 : hh ≠ 0 := fun q => by rw [h0 q, zI] at w3; omega
    refine ⟨?_, k1, hX, k2, i2, fun q => absurd q hh0⟩
    obtain ⟨k, rfl, hk⟩ := nI_oF w2
    obtain ⟨⟨-, b1⟩, ⟨-, b2⟩, ⟨-, b3⟩, ⟨-, b4⟩⟩ := hF
    rw [hk] at w3
    obtain ⟨s1, s2, s3, s4, s5, s6⟩ := hS
    obtain ⟨c1, c2, c3, c4, c5, c6, c7⟩ := hR
    rw [n42] at hz14
    obtain ⟨a, ea, la⟩ := ivN 255 s5
    have x8 := xor8 ⟨a, by omega⟩ ⟨k, by omega⟩
    rw [n42, hz26, hz24, hz14, ea]
    refine ⟨fun j hj => ?_, fun j hj => ?_, fun j hj => ?_, fun j hj => ?_, by rw [upd_at]; exact x8, by rw [upd_ne (by omega)]; exact s6⟩
    · rw [upd_ne (by omega), upd_ne (by omega)]; exact s1 j hj
    · have q := c1 j hj
      unfold Lt at q
      rw [upd_ne (by omega), upd_ne (by omega)]; exact s2 j hj
    · have q := c4 j hj
      unfold Lt at q
      rw [upd_ne (by omega), upd_ne (by omega)]; exact s3 j hj
    · rw [upd_ne (by omega)]; exact s4 j hj
  · rcases hm with ⟨w, -⟩ | ⟨-, tm_, rm_, ⟨d3, d4⟩, rfl, rfl, rfl, rfl, rfl, rfl⟩
    · exact absurd w1 w
    exact h'
theorem shF_b {x c l : Int32} (hx : 0 ≤ x.toInt) (hx2 : x.toInt ≤ 2000) (hl : 0 ≤ l.toInt) : 0 ≤ (shF x c l).toInt ∧ (shF x c l).toInt ≤ l.toInt := by
  have o2 : (2 : Int32).toInt = 2 := by decide
  have e : (x - 2).toInt = x.toInt - 2 := by rw [subI (by rw [o2]; omega) (by rw [o2]; omega), o2]
  unfold shF
  by_cases q1 : x < c
  · rw [if_pos q1]
    by_cases q2 : l < x
    · rw [if_pos q2]; omega
    · rw [if_neg q2]; rw [lt_I] at q2; omega
  · rw [if_neg q1]
    by_cases q3 : 0 < x - 2
    · rw [if_pos q3]
      rw [lt_I, zI, e] at q3
      by_cases q2 : l < x - 2
      · rw [if_pos q2]; omega
      · rw [if_neg q2]; rw [lt_I, e] at q2; rw [e]; omega
    · rw [if_neg q3]
      by_cases q2 : l < 0
      · rw [lt_I, zI] at q2; omega
      · rw [if_neg q2, zI]; omega
theorem SK_mend {F S U X S2 U2 : Nat → Int32} {un im hh p0 th tm un2 r : Int32} (hF : FB F) (hR : RV0 F) (h0 : hh = 0 → F 10 = 0) (h : SK F S U X un im hh) (hm : R_m_mendX p0 hh un F S U S2 th tm U2 un2 r) : SK F S2 U2 X un2 im hh := by
  have h' := h
  obtain ⟨hS, hU, hX, i1, i2, hz⟩ := h
  have n43 : (43 : Int32).toNatClampNeg = 43 := by decide
  have o3 : (3 : Int32).toInt = 3 := by decide
  have o6 : (6 : Int32).toInt = 6 := by decide
  have o2 : (2 : Int32).toInt = 2 := by decide
  unfold R_m_mendX R_m_goodX at hm
  obtain ⟨t1, t2, ⟨rfl, rfl⟩, r5, hr5, hm⟩ := hm
  rcases isWeak_or hF h0 hr5 with ⟨w1, w2, w3⟩ | ⟨w1, w2⟩
  case inr =>
    rcases hm with ⟨w, -⟩ | ⟨-, tm_, rm_, ⟨d3, d4⟩, rfl, rfl, rfl, rfl, rfl, rfl⟩
    · exact absurd w1 w
    exact h'
  rcases hm with ⟨-, z13, hz13, z16, hz16, z19, hz19, r22, hr22, hm⟩ | ⟨w, -⟩
  case inr => rw [w1] at w; exact absurd w (by decide)
  rcases hm with ⟨-, tm_, rm_, ⟨d3, d4⟩, rfl, rfl, rfl, rfl, rfl, rfl⟩ | ⟨-, z32, hz32, z35, hz35, hm⟩
  · exact h'
  rcases hm with ⟨q6, u1, uu1, hnt, z44, hz44, z47, hz47, z48, hz48, z52, hz52, z55, hz55, r56, hr56, nn, hL⟩ | ⟨-, tm_, rm_, ⟨d3, d4⟩, rfl, rfl, rfl, rfl, rfl, rfl⟩
  case inr => exact h'
  obtain ⟨k1, k2⟩ := KB_note hF hR hS hU i1 hnt
  have hh0 : hh ≠ 0 := fun q => by rw [h0 q, zI] at w3; omega
  obtain ⟨w, rfl, hw⟩ := nI_oF w2
  obtain ⟨⟨f6a, f6⟩, ⟨f8a, f8⟩, ⟨f10a, f10⟩, ⟨f12a, f12⟩⟩ := id hF
  rw [hw] at w3
  have t13 : z13.toInt = (3 * w : Nat) := by rw [hz13, Int32.toInt_mul, o3, hw, Int.bmod_eq_of_le (by omega) (by omega)]; omega
  rw [addz (show (96 : Int32).toInt = (96 : Nat) by decide) t13 (by omega) hz16] at hz19
  obtain ⟨c1, c2, c3, c4, c5, c6, c7⟩ := hR
  have rw1 := c4 w w3
  unfold Lt at rw1
  rw [← hz19] at rw1
  obtain ⟨ρ, hρ⟩ : ∃ a : Nat, z19.toInt = a := ⟨z19.toInt.toNat, by omega⟩
  have c32 : z32.toNatClampNeg = ρ := by rw [addz (x := 0) (by decide) hρ (by omega) hz32]; omega
  rw [c32] at hz35 hL
  rw [le_I, o6, hz35] at q6
  obtain ⟨s1, s2, s3, s4, s5, s6⟩ := hS
  obtain ⟨p1, p2, p3⟩ := s1 ρ (by omega)
  rw [IV] at p1
  have t48 : z48.toInt = (S ρ).toInt - 2 := by rw [hz48, hz35, subI (by rw [o2]; omega) (by rw [o2]; omega), o2]
  have c52 : z52.toNatClampNeg = 8 + ρ := addz (show (8 : Int32).toInt = (8 : Nat) by decide) hρ (by omega) hz52
  rw [c52, upd_ne (by omega)] at hz55
  rw [c52] at hL
  have t481 : (z48 - 1).toInt = (S ρ).toInt - 3 := by rw [subI (by rw [oneI]; omega) (by rw [oneI]; omega), oneI, t48]; omega
  have hr56b : 0 ≤ r56.toInt ∧ r56.toInt ≤ (z48 - 1).toInt := by
    rw [sh_sh hr56]
    exact shF_b (by rw [hz55]; omega) (by rw [hz55]; omega) (by omega)
  obtain ⟨N8, hN8⟩ : ∃ a : Nat, (F 8).toInt = a := ⟨(F 8).toInt.toNat, by omega⟩
  obtain ⟨N10, hN10⟩ : ∃ a : Nat, (F 10).toInt = a := ⟨(F 10).toInt.toNat, by omega⟩
  obtain ⟨S3, ⟨nn2, hL2⟩, l1, l2⟩ := mend_L0 (S0 := upd (upd S ρ z48) (8 + ρ) r56) hN8 (by omega) nn _ 0 0 (by decide) (by omega) (fun k hk => by rw [if_neg (by omega)]) (fun i _ => rfl) hL
  obtain ⟨S4, ⟨z81, hz81, z82, hz82, z84, hz84, rfl, rfl, rfl, rfl, rfl, rfl⟩, l3, l4⟩ := mend_L1 (S0 := S3) hN10 (by omega) nn2 _ 0 0 (by decide) (by omega) (fun k hk => by rw [if_neg (by omega)]) (fun i _ => rfl) hL2
  have lo : ∀ i : Nat, (i < 16 ∨ 34 ≤ i) → S4 i = upd (upd S ρ r) (8 + ρ) r56 i := fun i hi => by rw [l4 i (by omega), l2 i (by omega)]
  have fr : ∀ x : Nat, x < 8 → S4 x = (if x = ρ then r else S x) := fun x hx => by
    rw [lo x (by omega), upd_ne (by omega)]
    by_cases e : x = ρ
    · subst e; rw [upd_at, if_pos rfl]
    · rw [upd_ne e, if_neg e]
  refine ⟨?_, k1, hX, k2, i2, fun q => absurd q hh0⟩
  rw [n43]
  refine ⟨fun k hk => ?_, fun k hk => ?_, fun k hk => ?_, fun k hk => ?_, ?_, ?_⟩
  · rw [upd_ne (by omega), upd_ne (by omega), fr k (by omega), lo (8 + k) (by omega)]
    by_cases e : k = ρ
    · subst e
      rw [if_pos rfl, upd_at, IV]
      omega
    · rw [if_neg e, upd_ne (by omega), upd_ne (by omega)]
      exact s1 k hk
  · have q := c1 k hk
    unfold Lt at q
    obtain ⟨x, hx⟩ : ∃ a : Nat, (F (44 + 3 * k)).toInt = a := ⟨(F (44 + 3 * k)).toInt.toNat, by omega⟩
    have ex : (F (44 + 3 * k)).toInt.toNat = x := by omega
    have g := s2 k hk
    have gx := (s1 x (by omega)).1
    rw [IV] at gx
    rw [ex] at g
    rw [upd_ne (by omega), ex, upd_ne (by omega), fr x (by omega), l4 _ (by omega), l1 k (by omega), upd_ne (by omega), upd_ne (by omega)]
    by_cases e : x = ρ
    · have e2 : F (44 + 3 * k) = z19 := Int32.toInt_inj.mp (by rw [hx, hρ, e])
      rw [if_pos ⟨by omega, e2⟩, if_pos e]
      have := shF_b (x := S (16 + k)) (c := z47) (l := r - 1) g.1 (by omega) (by omega)
      omega
    · rw [if_neg (fun v => e (by have := congrArg Int32.toInt v.2; omega)), if_neg e]
      exact g
  · have q := c4 k hk
    unfold Lt at q
    obtain ⟨x, hx⟩ : ∃ a : Nat, (F (96 + 3 * k)).toInt = a := ⟨(F (96 + 3 * k)).toInt.toNat, by omega⟩
    have ex : (F (96 + 3 * k)).toInt.toNat = x := by omega
    have g := s3 k hk
    have gx := (s1 x (by omega)).1
    rw [IV] at gx
    rw [ex] at g
    rw [upd_ne (by omega), ex, upd_ne (by omega), fr x (by omega), l3 k (by omega), l2 _ (by omega), upd_ne (by omega), upd_ne (by omega)]
    by_cases e : x = ρ
    · have e2 : F (96 + 3 * k) = z19 := Int32.toInt_inj.mp (by rw [hx, hρ, e])
      rw [if_pos ⟨by omega, e2⟩, if_pos e]
      have := shF_b (x := S (28 + k)) (c := z47) (l := r - 1) g.1 (by omega) (by omega)
      omega
    · rw [if_neg (fun v => e (by have := congrArg Int32.toInt v.2; omega)), if_neg e]
      exact g
  · rw [upd_ne (by omega), lo _ (by omega), upd_ne (by omega), upd_ne (by omega)]; exact s4 k hk
  · rw [upd_ne (by omega), lo 42 (by first | decide | omega), upd_ne (by omega), upd_ne (by omega)]; exact s5
  · obtain ⟨a, ea, la⟩ := ivN 63 s6
    have x6 := or6 ⟨a, by omega⟩ ⟨w, by omega⟩
    rw [upd_at, hz84, hz82, hz81, n43, lo 43 (by first | decide | omega), upd_ne (by omega), upd_ne (by omega), ea]
    exact x6
theorem SK_undo {F S U X S2 : Nat → Int32} {un im hh th tm un2 r : Int32} (hF : FB F) (hR : RV0 F) (h : SK F S U X un im hh) (hm : R_m_undoX un S U S2 th tm un2 r) : SK F S2 U X un2 im hh := by
  have h' := h
  obtain ⟨hS, hU, hX, i1, i2, hz⟩ := h
  have o1 : (1 : Int32).toInt = 1 := by decide
  unfold R_m_undoX R_m_goodX at hm
  obtain ⟨t1, t2, ⟨rfl, rfl⟩, hm⟩ := hm
  rcases hm with ⟨q, w7, hw7, w10, hw10, g13, hg, rfl, rfl, rfl, rfl, rfl⟩ | ⟨-, tm_, rm_, ⟨d3, d4⟩, rfl, rfl, rfl, rfl, rfl⟩
  case inr => exact h'
  obtain ⟨a, ha⟩ : ∃ a : Nat, un.toInt = a := ⟨un.toInt.toNat, by have := i1.1; omega⟩
  have a0 : a ≠ 0 := fun e => q (Int32.toInt_inj.mp (by rw [ha, zI, e]; rfl))
  rw [IV, ha] at i1
  have t7 : un2.toInt = (a - 1 : Nat) := by rw [hw7, subI (by rw [oneI]; omega) (by rw [oneI]; omega), oneI, ha]; omega
  obtain ⟨v1, v2⟩ := cpB (mul44 t7 (by omega) hw10) (by omega) hg
  refine ⟨SB.row hF hR (hU (a - 1) (by omega)) (fun j hj => v1 j hj), fun i hi => hU i (by omega), hX, by rw [IV, t7]; omega, i2, fun e => ?_⟩
  exact absurd (hz e).2.2.2.1 q
theorem SK_image {F S U X X2 : Nat → Int32} {un im hh th tm im2 r : Int32} (hF : FB F) (hR : RV0 F) (h : SK F S U X un im hh) (hm : R_m_imageX hh im S X im2 X2 th tm r) : SK F S U X2 un im2 hh := by
  have h' := h
  obtain ⟨hS, hU, hX, i1, i2, hz⟩ := h
  have o1 : (1 : Int32).toInt = 1 := by decide
  have o3 : (3 : Int32).toInt = 3 := by decide
  unfold R_m_imageX R_m_goodX at hm
  obtain ⟨t1, t2, ⟨rfl, rfl⟩, hm⟩ := hm
  rcases hm with ⟨q0, hm⟩ | ⟨-, tm_, rm_, ⟨d3, d4⟩, rfl, rfl, rfl, rfl, rfl⟩
  case inr => exact h'
  rcases hm with ⟨q3, z, hz3, f, hcp, z9, h9, z10, h10, rfl, rfl, rfl, rfl, rfl⟩ | ⟨-, tm_, rm_, ⟨d3, d4⟩, rfl, rfl, rfl, rfl, rfl⟩
  case inr => exact h'
  obtain ⟨a, ha⟩ : ∃ a : Nat, im.toInt = a := ⟨im.toInt.toNat, by have := i2.1; omega⟩
  have a3 : a ≠ 3 := fun e => q3 (Int32.toInt_inj.mp (by rw [ha, o3, e]; rfl))
  rw [IV, ha] at i2
  have t9 : im2.toInt = a + 1 := by rw [h9, addI (by rw [oneI]; omega) (by rw [oneI]; omega), oneI, ha]
  obtain ⟨c1, c2⟩ := cpC (mul44 ha (by omega) hz3) (by omega) hcp
  refine ⟨hS, hU, fun i hi => ?_, i1, by rw [IV, t9]; omega, fun e => absurd e q0⟩
  by_cases q : i = a
  · subst q
    exact SB.row hF hR hS (fun j hj => c1 j hj)
  · exact SB.row hF hR (hX i (by omega)) (fun j hj => c2 _ (Or.inl (by omega)))
theorem SK_back {F S U X S2 : Nat → Int32} {un im hh p0 th tm un2 r : Int32} (hF : FB F) (hR : RV0 F) (h : SK F S U X un im hh) (hm : R_m_backX p0 un im S X S2 th tm un2 r) : SK F S2 U X un2 im hh := by
  have h' := h
  obtain ⟨hS, hU, hX, i1, i2, hz⟩ := h
  unfold R_m_backX R_m_goodX at hm
  obtain ⟨t1, t2, ⟨rfl, rfl⟩, z5, hz5, r8, hr8, hm⟩ := hm
  rcases hm with ⟨q, w22, hw22, g25, hg, rfl, rfl, rfl, rfl, rfl⟩ | ⟨-, tm_, rm_, ⟨d3, d4⟩, rfl, rfl, rfl, rfl, rfl⟩
  case inr => exact h'
  have t5 : z5.toInt = im.toInt - 1 := by
    rw [IV] at i2
    rw [hz5, subI (by rw [oneI]; omega) (by rw [oneI]; omega), oneI]
  rcases in_or hr8 with ⟨g1, g2, g3⟩ | ⟨g1, g2⟩
  case inr => exact absurd g1 q
  rw [zI] at g2
  obtain ⟨m, hm3⟩ : ∃ a : Nat, p0.toInt = a := ⟨p0.toInt.toNat, by omega⟩
  have i2' := i2
  rw [IV] at i2'
  obtain ⟨v1, v2⟩ := cpD (mul44 hm3 (by omega) hw22) (by omega) hg
  refine ⟨SB.row hF hR (hX m (by omega)) (fun j hj => v1 j hj), fun i hi => by rw [zI] at hi; omega, hX, by decide, i2, fun e => ?_⟩
  obtain ⟨y1, y2, y3, y4, y5⟩ := hz e
  rw [y5, zI] at t5
  omega
/-- a house that is read -/
theorem SK_house {F S U X : Nat → Int32} (hF : FB F) (hV : VB F) (hR : RV0 F) (hs : StF F S) : SK F S U X 0 0 1 := by
  obtain ⟨g1, g2, g3, g4, g5, g6⟩ := hs
  obtain ⟨⟨a0, a1, a2, a3, a4, a5⟩, -, v1, v2, v3, v4, v5, v6, v8, v9, vU⟩ := hV
  obtain ⟨c1, c2, c3, c4, c5, c6, c7⟩ := hR
  refine ⟨⟨fun k hk => ?_, fun k hk => ?_, fun k hk => ?_, fun k hk => ?_, by rw [g5]; decide, by rw [g6]; decide⟩, fun i hi => by rw [zI] at hi; omega, fun i hi => by rw [zI] at hi; omega, by decide, by decide, fun e => absurd e (by decide)⟩
  · have q := v1 k hk
    unfold VRe at q
    rw [(g1 k hk).1, (g1 k hk).2]
    exact ⟨q.1, q.2.1, q.2.2.1⟩
  · have q := v3 k hk
    unfold VFr at q
    have r1 := c1 k hk
    unfold Lt at r1
    rw [g2 k hk, (g1 _ (by omega)).1]
    exact q
  · have q := (v5 k hk).1
    unfold VFr at q
    have r1 := c4 k hk
    unfold Lt at r1
    rw [g3 k hk, (g1 _ (by omega)).1]
    exact q
  · rw [g4 k hk, IV]
    rw [IV] at a2
    omega
theorem SB.cgF {F G S : Nat → Int32} (e : ∀ i : Nat, i < 167 → G i = F i) (hb : (F 8).toInt ≤ 12 ∧ (F 10).toInt ≤ 6) (h : SB F S) : SB G S := by
  obtain ⟨h1, h2, h3, h4, h5, h6⟩ := h
  obtain ⟨b2, b3⟩ := hb
  refine ⟨fun k hk => ?_, fun k hk => ?_, fun k hk => ?_, fun k hk => ?_, h5, h6⟩
  · rw [e 6 (by first | decide | omega)] at hk; exact h1 k hk
  · rw [e 8 (by first | decide | omega)] at hk; rw [e (44 + 3 * k) (by omega)]; exact h2 k hk
  · rw [e 10 (by first | decide | omega)] at hk; rw [e (96 + 3 * k) (by omega)]; exact h3 k hk
  · rw [e 12 (by first | decide | omega)] at hk; exact h4 k hk
theorem SK_0 : SK (fun _ => 0) (fun _ => 0) (fun _ => 0) (fun _ => 0) 0 0 0 := by
  have no : ∀ k : Nat, ¬ (k : Int) < (0 : Int32).toInt := fun k => by rw [zI]; omega
  exact ⟨⟨fun k hk => (no k hk).elim, fun k hk => (no k hk).elim, fun k hk => (no k hk).elim, fun k hk => (no k hk).elim, by decide, by decide⟩, fun i hi => (no i hi).elim, fun i hi => (no i hi).elim, by decide, by decide, fun _ => ⟨fun _ _ => rfl, rfl, rfl, rfl, rfl⟩⟩
theorem SK.cgF {F G S U X : Nat → Int32} (e : ∀ i : Nat, i < 167 → G i = F i) (hR : RV0 F) (hb : (F 8).toInt ≤ 12 ∧ (F 10).toInt ≤ 6) (h : SK F S U X 0 0 1) : SK G S U X 0 0 1 := by
  have no : ∀ k : Nat, ¬ (k : Int) < (0 : Int32).toInt := fun k => by rw [zI]; omega
  obtain ⟨h1, -, -, i1, i2, -⟩ := h
  refine ⟨?_, fun i hi => (no i hi).elim, fun i hi => (no i hi).elim, i1, i2, fun q => absurd q (by decide)⟩
  exact SB.cgF e hb h1

set_option maxRecDepth 100000
set_option maxHeartbeats 4000000
def LR (xtpd : Int32) (tpf yhnf : Nat → Int32) (yhtn : Int32) (yhtf : Nat → Int32) (yhjn : Int32) (yhjf : Nat → Int32) (yhmn : Int32) (yhmf : Nat → Int32) (yhbn : Int32) (yhbf : Nat → Int32) (yhsn : Int32) (yhsf : Nat → Int32) (yhcn : Int32) (yhcf : Nat → Int32) (zrn zmn zwn zpn zmd ztr : Int32) (zrf zmf zwf zpf : Nat → Int32) (kac knx kim : Int32) (cf : Nat → SC) (m_taped : Int32) (d_tape d_r d_st d_undone d_kept : Nat → Int32) (m_undos m_images m_hasHouse : Int32) : Prop := (xtpd = m_taped ∧ TpR tpf d_tape) ∧ ST d_r d_st d_undone d_kept m_undos m_images m_hasHouse zrn zmn zwn zpn zmd ztr zrf zmf zwf zpf kac knx kim cf ∧ TO d_r yhnf yhtn yhtf yhjn yhjf yhmn yhmf yhbn yhbf yhsn yhsf yhcn yhcf ∧ FIv d_r ∧ RV d_r ∧ SK d_r d_st d_undone d_kept m_undos m_images m_hasHouse
theorem no0 {k : Nat} {P : Prop} (h : (k : Int) < (0 : Int32).toInt) : P := by rw [zI] at h; omega
theorem LR0 {cf : Nat → SC} : LR 0 (fun _ => 0) (fun _ => 0) 0 (fun _ => 0) 0 (fun _ => 0) 0 (fun _ => 0) 0 (fun _ => 0) 0 (fun _ => 0) 0 (fun _ => 0) 0 0 0 0 0 0 (fun _ => 0) (fun _ => 0) (fun _ => 0) (fun _ => 0) 0 0 0 cf 0 (fun _ => 0) (fun _ => 0) (fun _ => 0) (fun _ => 0) (fun _ => 0) 0 0 0 :=
  ⟨⟨rfl, fun _ _ => ⟨show IV (0 : Int32) 0 255 from (by decide), show (0 : Int32) = sx 0 from (by decide)⟩⟩,
   ⟨⟨show IV (0 : Int32) 0 8 from (by decide), show IV (0 : Int32) 0 12 from (by decide), show IV (0 : Int32) 0 6 from (by decide), show IV (0 : Int32) 0 8 from (by decide)⟩, ⟨⟨rfl, rfl, rfl, rfl, rfl, rfl⟩, fun k hk => no0 hk, fun k hk => no0 hk, fun k hk => no0 hk, fun k hk => no0 hk⟩, ⟨⟨rfl, rfl, show IV (0 : Int32) 0 12 from (by decide), show IV (0 : Int32) 0 11 from (by decide), show IV (0 : Int32) 0 3 from (by decide)⟩, fun k hk => no0 hk, fun k hk => no0 hk⟩, Or.inl rfl, fun _ => ⟨rfl, rfl, rfl, rfl⟩, fun q => absurd rfl q⟩,
   ⟨⟨rfl, rfl, rfl, rfl, rfl⟩, Or.inl ⟨rfl, rfl⟩, fun _ _ => rfl, fun k j hk _ => no0 hk, fun k j hk _ => no0 hk, fun k hk => no0 hk, fun q j _ => rfl, fun k j hk _ => no0 hk, fun k j hk _ => no0 hk⟩,
   ⟨show IV (0 : Int32) 0 8 from (by decide), show IV (0 : Int32) 0 4 from (by decide), show IV (0 : Int32) 0 12 from (by decide), show IV (0 : Int32) 0 8 from (by decide), show IV (0 : Int32) 0 6 from (by decide), show IV (0 : Int32) 0 4 from (by decide), show IV (0 : Int32) 0 6 from (by decide), show IV (0 : Int32) 0 6 from (by decide)⟩,
   RV_0 (fun _ _ => rfl), SK_0⟩
theorem LR_feed {xtpd : Int32} {tpf yhnf : Nat → Int32} {yhtn : Int32} {yhtf : Nat → Int32} {yhjn : Int32} {yhjf : Nat → Int32} {yhmn : Int32} {yhmf : Nat → Int32} {yhbn : Int32} {yhbf : Nat → Int32} {yhsn : Int32} {yhsf : Nat → Int32} {yhcn : Int32} {yhcf : Nat → Int32} {zrn zmn zwn zpn zmd ztr : Int32} {zrf zmf zwf zpf : Nat → Int32} {kac knx kim : Int32} {cf : Nat → SC} {m_taped : Int32} {d_tape d_r d_st d_undone d_kept : Nat → Int32} {m_undos m_images m_hasHouse xtpd_2 : Int32} {tpf_2 : Nat → Int32} {m_taped_2 : Int32} {d_tape_2 : Nat → Int32} {p0 p1 p2 p3 p4 r r2 : Int32} (h : LR xtpd tpf yhnf yhtn yhtf yhjn yhjf yhmn yhmf yhbn yhbf yhsn yhsf yhcn yhcf zrn zmn zwn zpn zmd ztr zrf zmf zwf zpf kac knx kim cf m_taped d_tape d_r d_st d_undone d_kept m_undos m_images m_hasHouse) (hx : R_c_feedX p0 p1 p2 p3 p4 xtpd tpf xtpd_2 tpf_2 r) (hm : ∃ th : Int32, R_m_feedX p0 p1 p2 p3 p4 m_taped d_tape d_tape_2 m_taped_2 th r2) : LR xtpd_2 tpf_2 yhnf yhtn yhtf yhjn yhjf yhmn yhmf yhbn yhbf yhsn yhsf yhcn yhcf zrn zmn zwn zpn zmd ztr zrf zmf zwf zpf kac knx kim cf m_taped_2 d_tape_2 d_r d_st d_undone d_kept m_undos m_images m_hasHouse := by
  obtain ⟨⟨e, hT⟩, h3⟩ := h
  obtain ⟨th, hm⟩ := hm
  rw [← e] at hm
  obtain ⟨h1, h2, -⟩ := q_feed hx hm hT
  exact ⟨⟨h1, h2⟩, h3⟩
theorem LR_house {xtpd : Int32} {tpf yhnf : Nat → Int32} {yhtn : Int32} {yhtf : Nat → Int32} {yhjn : Int32} {yhjf : Nat → Int32} {yhmn : Int32} {yhmf : Nat → Int32} {yhbn : Int32} {yhbf : Nat → Int32} {yhsn : Int32} {yhsf : Nat → Int32} {yhcn : Int32} {yhcf : Nat → Int32} {zrn zmn zwn zpn zmd ztr : Int32} {zrf zmf zwf zpf : Nat → Int32} {kac knx kim : Int32} {cf : Nat → SC} {m_taped : Int32} {d_tape d_r d_st d_undone d_kept : Nat → Int32} {m_undos m_images m_hasHouse xtpd_2 : Int32} {yhnf_2 : Nat → Int32} {yhtn_2 : Int32} {yhtf_2 : Nat → Int32} {yhjn_2 : Int32} {yhjf_2 : Nat → Int32} {yhmn_2 : Int32} {yhmf_2 : Nat → Int32} {yhbn_2 : Int32} {yhbf_2 : Nat → Int32} {yhsn_2 : Int32} {yhsf_2 : Nat → Int32} {yhcn_2 : Int32} {yhcf_2 : Nat → Int32} {zrn_2 zmn_2 zwn_2 zpn_2 zmd_2 ztr_2 : Int32} {zrf_2 zmf_2 zwf_2 zpf_2 : Nat → Int32} {kac_2 kim_2 m_taped_2 : Int32} {d_r_2 d_st_2 : Nat → Int32} {m_undos_2 m_images_2 m_hasHouse_2 : Int32} {p0 : Int32} (h : LR xtpd tpf yhnf yhtn yhtf yhjn yhjf yhmn yhmf yhbn yhbf yhsn yhsf yhcn yhcf zrn zmn zwn zpn zmd ztr zrf zmf zwf zpf kac knx kim cf m_taped d_tape d_r d_st d_undone d_kept m_undos m_images m_hasHouse) (hx : HXS p0 xtpd tpf yhnf yhtn yhtf yhjn yhjf yhmn yhmf yhbn yhbf yhsn yhsf yhcn yhcf zrn zmn zwn zpn zmd ztr zrf zmf zwf zpf kac kim xtpd_2 yhnf_2 yhtn_2 yhtf_2 yhjn_2 yhjf_2 yhmn_2 yhmf_2 yhbn_2 yhbf_2 yhsn_2 yhsf_2 yhcn_2 yhcf_2 zrn_2 zmn_2 zwn_2 zpn_2 zmd_2 ztr_2 zrf_2 zmf_2 zwf_2 zpf_2 kac_2 kim_2) (hm : HMS p0 m_taped d_tape d_r d_st m_undos m_images m_hasHouse m_taped_2 d_r_2 d_st_2 m_undos_2 m_images_2 m_hasHouse_2) : LR xtpd_2 tpf yhnf_2 yhtn_2 yhtf_2 yhjn_2 yhjf_2 yhmn_2 yhmf_2 yhbn_2 yhbf_2 yhsn_2 yhsf_2 yhcn_2 yhcf_2 zrn_2 zmn_2 zwn_2 zpn_2 zmd_2 ztr_2 zrf_2 zmf_2 zwf_2 zpf_2 kac_2 knx kim_2 cf m_taped_2 d_tape d_r_2 d_st_2 d_undone d_kept m_undos_2 m_images_2 m_hasHouse_2 := by
  obtain ⟨⟨e, hT⟩, hS, hTO, hB, hV⟩ := h
  subst e
  rcases hx d_tape hT with ⟨q, x1, x2⟩ | ⟨q, x1, x2⟩
  · rcases hm with ⟨-, y1, y2, y3, y4, y5, y6⟩ | ⟨q2, -⟩
    · unfold SAMEh at x2
      obtain ⟨rfl, rfl, rfl, rfl, rfl, rfl, rfl, rfl, rfl, rfl, rfl, rfl, rfl, rfl, rfl, rfl, rfl, rfl, rfl, rfl, rfl, rfl, rfl, rfl, rfl⟩ := x2
      subst y2 y3 y4 y5 y6
      exact ⟨⟨x1.trans y1.symm, hT⟩, hS, hTO, hB, hV⟩
    · exact absurd q2 q
  · rcases hm with ⟨q2, -⟩ | ⟨-, F0, hF, hm⟩
    · exact absurd q q2
    · obtain ⟨k, ρ, hk, hx⟩ := x2 F0 hF
      obtain ⟨y1, hm⟩ := hm k ρ hk
      rcases hx with ⟨e, e1, x2⟩ | ⟨v, e1, x2, x3, x4, x5, x6, x7, x8⟩
      · rcases hm with ⟨e', e2, y2, y3, y4, y5, y6⟩ | ⟨v', e2, -⟩
        · unfold SAMEh at x2
          obtain ⟨rfl, rfl, rfl, rfl, rfl, rfl, rfl, rfl, rfl, rfl, rfl, rfl, rfl, rfl, rfl, rfl, rfl, rfl, rfl, rfl, rfl, rfl, rfl, rfl, rfl⟩ := x2
          subst y2 y3 y4 y5 y6
          exact ⟨⟨x1.trans y1.symm, hT⟩, hS, hTO, hB, hV⟩
        · exact absurd (e1.symm.trans e2) (by intro q; cases q)
      · rcases hm with ⟨e', e2, -⟩ | ⟨v', e2, y2, y3, y4, y5, y6⟩
        · exact absurd (e1.symm.trans e2) (by intro q; cases q)
        · cases Sum.inr.inj (e1.symm.trans e2)
          subst e1
          have h12 := (TxR_in _ _ _ _ hk).2.1
          have hB2 := FIv.cg y3 x6
          have b12 : IV (d_r_2 12) 0 8 := by rw [y3 12 (by first | decide | omega)]; exact x7
          obtain ⟨-, -, ⟨⟨-, -, -, iv2, -⟩, -⟩, -⟩ := hS
          refine ⟨⟨x1.trans y1.symm, hT⟩, ⟨⟨hB2.1, hB2.2.2.1, hB2.2.2.2.2.1, b12⟩, SG_SR y3 x6 x7 x3 (y6 x6 x7), ⟨⟨x4.trans y4.symm, x5.trans y5.symm, ?_, iv2, ?_⟩, fun i hi => ?_, fun i hi => ?_⟩, Or.inr y2, fun q => absurd (y2.symm.trans q) (by decide), fun _ => ?_⟩, TO.cg y3 x6 x2, hB2, RV.cg y3 x6 x7 x8, (by rw [y2, y4, y5]; exact SK.cgF (fun i hi => y3 i (by omega)) x8.1 ⟨x6.2.2.1.2, x6.2.2.2.2.1.2⟩ (SK_house ⟨x6.1, x6.2.2.1, x6.2.2.2.2.1, x7⟩ x8.2 x8.1 (y6 x6 x7)))⟩
          · rw [x4]; decide
          · rw [x5]; decide
          · rw [x4] at hi; exact no0 hi
          · rw [x5] at hi; exact no0 hi
          · rw [y3 12 (by first | decide | omega)]
            have q0 := x7.1
            have q1 : (v.1 12).toInt ≠ 0 := fun w => h12 (Int32.toInt_inj.mp (w.trans zI.symm))
            omega
theorem LR_threads {xtpd : Int32} {tpf yhnf : Nat → Int32} {yhtn : Int32} {yhtf : Nat → Int32} {yhjn : Int32} {yhjf : Nat → Int32} {yhmn : Int32} {yhmf : Nat → Int32} {yhbn : Int32} {yhbf : Nat → Int32} {yhsn : Int32} {yhsf : Nat → Int32} {yhcn : Int32} {yhcf : Nat → Int32} {zrn zmn zwn zpn zmd ztr : Int32} {zrf zmf zwf zpf : Nat → Int32} {kac knx kim : Int32} {cf : Nat → SC} {m_taped : Int32} {d_tape d_r d_st d_undone d_kept : Nat → Int32} {m_undos m_images m_hasHouse zrn_2 zmn_2 zwn_2 zpn_2 zmd_2 ztr_2 : Int32} {zrf_2 zmf_2 zwf_2 zpf_2 : Nat → Int32} {kac_2 knx_2 : Int32} {cf_2 : Nat → SC} {d_st_2 d_undone_2 : Nat → Int32} {m_undos_2 : Int32} {p0 p1 r r2 : Int32} (h : LR xtpd tpf yhnf yhtn yhtf yhjn yhjf yhmn yhmf yhbn yhbf yhsn yhsf yhcn yhcf zrn zmn zwn zpn zmd ztr zrf zmf zwf zpf kac knx kim cf m_taped d_tape d_r d_st d_undone d_kept m_undos m_images m_hasHouse) (hx : ∃ t1 : Int32, R_c_threadsX p0 p1 zmd ztr zrn zrf zmn zmf zwn zwf zpn zpf kac knx cf t1 zrf_2 zmf_2 zwf_2 zpf_2 zrn_2 zmn_2 zwn_2 zpn_2 zmd_2 ztr_2 kac_2 knx_2 cf_2 r) (hm : ∃ t2 : Int32, ∃ t3 : Int32, R_m_threadsX p0 p1 m_hasHouse m_undos d_r d_st d_undone d_st_2 t2 t3 d_undone_2 m_undos_2 r2) : LR xtpd tpf yhnf yhtn yhtf yhjn yhjf yhmn yhmf yhbn yhbf yhsn yhsf yhcn yhcf zrn_2 zmn_2 zwn_2 zpn_2 zmd_2 ztr_2 zrf_2 zmf_2 zwf_2 zpf_2 kac_2 knx_2 kim cf_2 m_taped d_tape d_r d_st_2 d_undone_2 d_kept m_undos_2 m_images m_hasHouse := by
  obtain ⟨h0, hS, hTO, hB, hV⟩ := h
  obtain ⟨t1, hx⟩ := hx
  obtain ⟨t2, t3, hm⟩ := hm
  exact ⟨h0, (A_threads hS hx hm).1, hTO, hB, hV.1, SK_threads hS.1 hV.1.1 (fun q => (hS.2.2.2.2.1 q).2.2.2) hV.2 hm⟩
theorem LR_trim {xtpd : Int32} {tpf yhnf : Nat → Int32} {yhtn : Int32} {yhtf : Nat → Int32} {yhjn : Int32} {yhjf : Nat → Int32} {yhmn : Int32} {yhmf : Nat → Int32} {yhbn : Int32} {yhbf : Nat → Int32} {yhsn : Int32} {yhsf : Nat → Int32} {yhcn : Int32} {yhcf : Nat → Int32} {zrn zmn zwn zpn zmd ztr : Int32} {zrf zmf zwf zpf : Nat → Int32} {kac knx kim : Int32} {cf : Nat → SC} {m_taped : Int32} {d_tape d_r d_st d_undone d_kept : Nat → Int32} {m_undos m_images m_hasHouse zrn_2 zmn_2 zwn_2 zpn_2 zmd_2 ztr_2 : Int32} {zrf_2 zmf_2 zwf_2 zpf_2 : Nat → Int32} {kac_2 knx_2 : Int32} {cf_2 : Nat → SC} {d_st_2 d_undone_2 : Nat → Int32} {m_undos_2 : Int32} {p0 p1 r r2 : Int32} (h : LR xtpd tpf yhnf yhtn yhtf yhjn yhjf yhmn yhmf yhbn yhbf yhsn yhsf yhcn yhcf zrn zmn zwn zpn zmd ztr zrf zmf zwf zpf kac knx kim cf m_taped d_tape d_r d_st d_undone d_kept m_undos m_images m_hasHouse) (hx : ∃ t1 : Int32, R_c_trimX p0 p1 zmd ztr zrn zrf zmn zmf zwn zwf zpn zpf kac knx cf t1 zrf_2 zmf_2 zwf_2 zpf_2 zrn_2 zmn_2 zwn_2 zpn_2 zmd_2 ztr_2 kac_2 knx_2 cf_2 r) (hm : ∃ t2 : Int32, ∃ t3 : Int32, R_m_trimX p0 p1 m_hasHouse m_undos d_r d_st d_undone d_st_2 t2 t3 d_undone_2 m_undos_2 r2) (hp : p1 = 0 ∨ p1 = 1 := by decide) : LR xtpd tpf yhnf yhtn yhtf yhjn yhjf yhmn yhmf yhbn yhbf yhsn yhsf yhcn yhcf zrn_2 zmn_2 zwn_2 zpn_2 zmd_2 ztr_2 zrf_2 zmf_2 zwf_2 zpf_2 kac_2 knx_2 kim cf_2 m_taped d_tape d_r d_st_2 d_undone_2 d_kept m_undos_2 m_images m_hasHouse := by
  obtain ⟨h0, hS, hTO, hB, hV⟩ := h
  obtain ⟨t1, hx⟩ := hx
  obtain ⟨t2, t3, hm⟩ := hm
  exact ⟨h0, (A_trim hp hS hx hm).1, hTO, hB, hV.1, SK_trim hS.1 hV.1.1 (fun q => (hS.2.2.2.2.1 q).2.2.2) hV.2 hm⟩
theorem LR_mend {xtpd : Int32} {tpf yhnf : Nat → Int32} {yhtn : Int32} {yhtf : Nat → Int32} {yhjn : Int32} {yhjf : Nat → Int32} {yhmn : Int32} {yhmf : Nat → Int32} {yhbn : Int32} {yhbf : Nat → Int32} {yhsn : Int32} {yhsf : Nat → Int32} {yhcn : Int32} {yhcf : Nat → Int32} {zrn zmn zwn zpn zmd ztr : Int32} {zrf zmf zwf zpf : Nat → Int32} {kac knx kim : Int32} {cf : Nat → SC} {m_taped : Int32} {d_tape d_r d_st d_undone d_kept : Nat → Int32} {m_undos m_images m_hasHouse zrn_2 zmn_2 zwn_2 zpn_2 zmd_2 ztr_2 : Int32} {zrf_2 zmf_2 zwf_2 zpf_2 : Nat → Int32} {kac_2 knx_2 : Int32} {cf_2 : Nat → SC} {d_st_2 d_undone_2 : Nat → Int32} {m_undos_2 : Int32} {p0 r r2 : Int32} (h : LR xtpd tpf yhnf yhtn yhtf yhjn yhjf yhmn yhmf yhbn yhbf yhsn yhsf yhcn yhcf zrn zmn zwn zpn zmd ztr zrf zmf zwf zpf kac knx kim cf m_taped d_tape d_r d_st d_undone d_kept m_undos m_images m_hasHouse) (hx : ∃ t1 : Int32, R_c_mendX p0 zmd ztr zrn zrf zmn zmf zwn zwf zpn zpf kac knx cf t1 zrf_2 zmf_2 zwf_2 zpf_2 zrn_2 zmn_2 zwn_2 zpn_2 zmd_2 ztr_2 kac_2 knx_2 cf_2 r) (hm : ∃ t2 : Int32, ∃ t3 : Int32, R_m_mendX p0 m_hasHouse m_undos d_r d_st d_undone d_st_2 t2 t3 d_undone_2 m_undos_2 r2) : LR xtpd tpf yhnf yhtn yhtf yhjn yhjf yhmn yhmf yhbn yhbf yhsn yhsf yhcn yhcf zrn_2 zmn_2 zwn_2 zpn_2 zmd_2 ztr_2 zrf_2 zmf_2 zwf_2 zpf_2 kac_2 knx_2 kim cf_2 m_taped d_tape d_r d_st_2 d_undone_2 d_kept m_undos_2 m_images m_hasHouse := by
  obtain ⟨h0, hS, hTO, hB, hV⟩ := h
  obtain ⟨t1, hx⟩ := hx
  obtain ⟨t2, t3, hm⟩ := hm
  exact ⟨h0, (A_mend (fun k hk => hV.1.1.2.2.2.1 k hk) hS hx hm).1, hTO, hB, hV.1, SK_mend hS.1 hV.1.1 (fun q => (hS.2.2.2.2.1 q).2.2.1) hV.2 hm⟩
theorem LR_undo {xtpd : Int32} {tpf yhnf : Nat → Int32} {yhtn : Int32} {yhtf : Nat → Int32} {yhjn : Int32} {yhjf : Nat → Int32} {yhmn : Int32} {yhmf : Nat → Int32} {yhbn : Int32} {yhbf : Nat → Int32} {yhsn : Int32} {yhsf : Nat → Int32} {yhcn : Int32} {yhcf : Nat → Int32} {zrn zmn zwn zpn zmd ztr : Int32} {zrf zmf zwf zpf : Nat → Int32} {kac knx kim : Int32} {cf : Nat → SC} {m_taped : Int32} {d_tape d_r d_st d_undone d_kept : Nat → Int32} {m_undos m_images m_hasHouse zrn_2 zmn_2 zwn_2 zpn_2 zmd_2 ztr_2 : Int32} {zrf_2 zmf_2 zwf_2 zpf_2 : Nat → Int32} {kac_2 knx_2 : Int32} {cf_2 : Nat → SC} {d_st_2 : Nat → Int32} {m_undos_2 : Int32} {r r2 : Int32} (h : LR xtpd tpf yhnf yhtn yhtf yhjn yhjf yhmn yhmf yhbn yhbf yhsn yhsf yhcn yhcf zrn zmn zwn zpn zmd ztr zrf zmf zwf zpf kac knx kim cf m_taped d_tape d_r d_st d_undone d_kept m_undos m_images m_hasHouse) (hx : ∃ t1 : Int32, R_c_undoX zmd ztr zrn zrf zmn zmf zwn zwf zpn zpf kac knx cf t1 zrf_2 zmf_2 zwf_2 zpf_2 zrn_2 zmn_2 zwn_2 zpn_2 zmd_2 ztr_2 kac_2 knx_2 cf_2 r) (hm : ∃ t2 : Int32, ∃ t3 : Int32, R_m_undoX m_undos d_st d_undone d_st_2 t2 t3 m_undos_2 r2) : LR xtpd tpf yhnf yhtn yhtf yhjn yhjf yhmn yhmf yhbn yhbf yhsn yhsf yhcn yhcf zrn_2 zmn_2 zwn_2 zpn_2 zmd_2 ztr_2 zrf_2 zmf_2 zwf_2 zpf_2 kac_2 knx_2 kim cf_2 m_taped d_tape d_r d_st_2 d_undone d_kept m_undos_2 m_images m_hasHouse := by
  obtain ⟨h0, hS, hTO, hB, hV⟩ := h
  obtain ⟨t1, hx⟩ := hx
  obtain ⟨t2, t3, hm⟩ := hm
  exact ⟨h0, (A_undo hS hx hm).1, hTO, hB, hV.1, SK_undo hS.1 hV.1.1 hV.2 hm⟩
theorem LR_image {xtpd : Int32} {tpf yhnf : Nat → Int32} {yhtn : Int32} {yhtf : Nat → Int32} {yhjn : Int32} {yhjf : Nat → Int32} {yhmn : Int32} {yhmf : Nat → Int32} {yhbn : Int32} {yhbf : Nat → Int32} {yhsn : Int32} {yhsf : Nat → Int32} {yhcn : Int32} {yhcf : Nat → Int32} {zrn zmn zwn zpn zmd ztr : Int32} {zrf zmf zwf zpf : Nat → Int32} {kac knx kim : Int32} {cf : Nat → SC} {m_taped : Int32} {d_tape d_r d_st d_undone d_kept : Nat → Int32} {m_undos m_images m_hasHouse zrn_2 zmn_2 zwn_2 zpn_2 zmd_2 ztr_2 : Int32} {zrf_2 zmf_2 zwf_2 zpf_2 : Nat → Int32} {kim_2 : Int32} {cf_2 : Nat → SC} {d_kept_2 : Nat → Int32} {m_images_2 : Int32} {r r2 : Int32} (h : LR xtpd tpf yhnf yhtn yhtf yhjn yhjf yhmn yhmf yhbn yhbf yhsn yhsf yhcn yhcf zrn zmn zwn zpn zmd ztr zrf zmf zwf zpf kac knx kim cf m_taped d_tape d_r d_st d_undone d_kept m_undos m_images m_hasHouse) (hx : ∃ t1 : Int32, R_c_imageX zmd ztr zrn zrf zmn zmf zwn zwf zpn zpf kim cf t1 zrf_2 zmf_2 zwf_2 zpf_2 zrn_2 zmn_2 zwn_2 zpn_2 zmd_2 ztr_2 kim_2 cf_2 r) (hm : ∃ t2 : Int32, ∃ t3 : Int32, R_m_imageX m_hasHouse m_images d_st d_kept m_images_2 d_kept_2 t2 t3 r2) : LR xtpd tpf yhnf yhtn yhtf yhjn yhjf yhmn yhmf yhbn yhbf yhsn yhsf yhcn yhcf zrn_2 zmn_2 zwn_2 zpn_2 zmd_2 ztr_2 zrf_2 zmf_2 zwf_2 zpf_2 kac knx kim_2 cf_2 m_taped d_tape d_r d_st d_undone d_kept_2 m_undos m_images_2 m_hasHouse := by
  obtain ⟨h0, hS, hTO, hB, hV⟩ := h
  obtain ⟨t1, hx⟩ := hx
  obtain ⟨t2, t3, hm⟩ := hm
  exact ⟨h0, (A_image hS hx hm).1, hTO, hB, hV.1, SK_image hS.1 hV.1.1 hV.2 hm⟩
theorem LR_back {xtpd : Int32} {tpf yhnf : Nat → Int32} {yhtn : Int32} {yhtf : Nat → Int32} {yhjn : Int32} {yhjf : Nat → Int32} {yhmn : Int32} {yhmf : Nat → Int32} {yhbn : Int32} {yhbf : Nat → Int32} {yhsn : Int32} {yhsf : Nat → Int32} {yhcn : Int32} {yhcf : Nat → Int32} {zrn zmn zwn zpn zmd ztr : Int32} {zrf zmf zwf zpf : Nat → Int32} {kac knx kim : Int32} {cf : Nat → SC} {m_taped : Int32} {d_tape d_r d_st d_undone d_kept : Nat → Int32} {m_undos m_images m_hasHouse zrn_2 zmn_2 zwn_2 zpn_2 zmd_2 ztr_2 : Int32} {zrf_2 zmf_2 zwf_2 zpf_2 : Nat → Int32} {kac_2 : Int32} {cf_2 : Nat → SC} {d_st_2 : Nat → Int32} {m_undos_2 : Int32} {p0 r r2 : Int32} (h : LR xtpd tpf yhnf yhtn yhtf yhjn yhjf yhmn yhmf yhbn yhbf yhsn yhsf yhcn yhcf zrn zmn zwn zpn zmd ztr zrf zmf zwf zpf kac knx kim cf m_taped d_tape d_r d_st d_undone d_kept m_undos m_images m_hasHouse) (hx : ∃ t1 : Int32, R_c_backX p0 zmd ztr zrn zrf zmn zmf zwn zwf zpn zpf kac kim cf t1 zrf_2 zmf_2 zwf_2 zpf_2 zrn_2 zmn_2 zwn_2 zpn_2 zmd_2 ztr_2 kac_2 cf_2 r) (hm : ∃ t2 : Int32, ∃ t3 : Int32, R_m_backX p0 m_undos m_images d_st d_kept d_st_2 t2 t3 m_undos_2 r2) : LR xtpd tpf yhnf yhtn yhtf yhjn yhjf yhmn yhmf yhbn yhbf yhsn yhsf yhcn yhcf zrn_2 zmn_2 zwn_2 zpn_2 zmd_2 ztr_2 zrf_2 zmf_2 zwf_2 zpf_2 kac_2 knx kim cf_2 m_taped d_tape d_r d_st_2 d_undone d_kept m_undos_2 m_images m_hasHouse := by
  obtain ⟨h0, hS, hTO, hB, hV⟩ := h
  obtain ⟨t1, hx⟩ := hx
  obtain ⟨t2, t3, hm⟩ := hm
  exact ⟨h0, (A_back hS hx hm).1, hTO, hB, hV.1, SK_back hS.1 hV.1.1 hV.2 hm⟩

set_option maxRecDepth 100000
set_option maxHeartbeats 4000000
theorem tb16 {f : Nat → Int32} {j : Nat} (h : j < 6) : tbAt 1 6 f 0 (nI j) = f j := by
  have e := tbN (R := 1) (V := 6) (f := f) (c := nI j) (m := 0) (j := j) (a := 1) (b := 6) (by decide) (by decide) (by omega) (by omega) (nI_toInt (by omega)) (by omega) h
  rw [nI_0, Nat.mul_zero, Nat.zero_add] at e
  exact e
theorem h_num {f : Nat → Int32} {x r : Int32} {j : Nat} (hx : x = nI j) (hj : j < 6) : R_h_numberX x f r ↔ r = f j := by
  unfold R_h_numberX
  subst hx
  simp only [exists_eq_left, tb16 hj]

set_option maxRecDepth 100000
set_option maxHeartbeats 4000000
theorem fo_snoc {A : Type} {st : Nat → A → A} : ∀ (k m : Nat) (a : A), fo st m (k + 1) a = st (m + k) (fo st m k a)
  | 0, _, _ => rfl
  | k + 1, m, a => by
    show fo st (m + 1) (k + 1) (st m a) = st (m + (k + 1)) (fo st (m + 1) k (st m a))
    rw [fo_snoc k (m + 1), show m + 1 + k = m + (k + 1) by omega]
def blst (F S : Nat → Int32) (kd tw rl : Int32) (m : Nat) (b : Int32) : Int32 := if F (44 + 3 * m) = rl then (if kd = 1 then (if S (16 + m) < b then S (16 + m) else b) else if kd = 2 then (if b < S (16 + m) then S (16 + m) else b) else if kd = 3 then (if F (44 + 3 * m + 2) = tw then S (16 + m) else b) else b) else b
/-- what the man mi believes of the reel rl -/
def bel (F S : Nat → Int32) (mi : Nat) (rl : Int32) : Int32 := fo (blst F S (F (114 + 3 * mi)) (F (114 + 3 * mi + 1)) rl) 0 (F 8).toInt.toNat (S (8 + rl.toInt.toNat))
theorem bel_c {F S zrf zmf yhmf : Nat → Int32} {mi ρ N8 : Nat} {r : Int32} (n8 : F 8 = nI N8) (hN8 : N8 ≤ 12) (hmi : mi < 4) (hk : (mi : Int) < (F 11).toInt) (hρ : (ρ : Int) < (F 6).toInt) (b6 : (F 6).toInt ≤ 8) (hM : ∀ k : Nat, (k : Int) < (F 11).toInt → yhmf (3 * k) = F (114 + 3 * k) ∧ yhmf (3 * k + 2) = F (114 + 3 * k + 2) ∧ (F (114 + 3 * k) = 3 → yhmf (3 * k + 1) = F (114 + 3 * k + 1))) (h1 : ∀ k : Nat, (k : Int) < (F 6).toInt → zrf (3 * k) = S k ∧ zrf (3 * k + 1) = S (8 + k) ∧ zrf (3 * k + 2) = F (16 + 3 * k + 2)) (h2 : ∀ k : Nat, (k : Int) < (F 8).toInt → zmf (3 * k) = F (44 + 3 * k) ∧ zmf (3 * k + 1) = S (16 + k) ∧ zmf (3 * k + 2) = F (44 + 3 * k + 2)) (h : R_s_believedByX (nI mi) (nI ρ) zrf (nI N8) zmf yhmf r) : r = bel F S mi (nI ρ) := by
  unfold R_s_believedByX at h
  obtain ⟨r1, hr1, r3, hr3, t, h⟩ := h
  obtain ⟨m1, m2, m3⟩ := hM mi hk
  rw [tbN (R := 4) (V := 3) (c := 0) (f := yhmf) (a := 4) (b := 3) (j := 0) (m := mi) (by decide) (by decide) (by omega) (by omega) (by decide) (by omega) (by omega), Nat.add_zero, m1] at hr1
  rw [tbN (R := 8) (V := 3) (c := 1) (f := zrf) (a := 8) (b := 3) (j := 1) (m := ρ) (by decide) (by decide) (by omega) (by omega) (by decide) (by omega) (by omega), (h1 ρ hρ).2.1] at hr3
  have e := lpE (N := N8) (κ := fun u => r = u) (st := blst F S (F (114 + 3 * mi)) (F (114 + 3 * mi + 1)) (nI ρ)) (L := fun n a u => R_s_believedByX_L0 (nI mi) (nI ρ) (nI N8) zmf yhmf r1 (fun u => r = u) n a u) (fun a u h => h) (fun t a => ?_) (fun t a m hm => ?_) r3
  · have e2 := e.mp ⟨t, h⟩
    unfold bel
    rw [n8, nI_toInt (by omega), nI_toInt (by omega), Int.toNat_natCast, Int.toNat_natCast, ← hr3]
    exact e2
  · show R_s_believedByX_L0 (nI mi) (nI ρ) (nI N8) zmf yhmf r1 (fun u => r = u) (t + 1) a (nI N8) ↔ r = a
    rw [R_s_believedByX_L0, goI, if_pos (Int32.le_refl _)]
  · show R_s_believedByX_L0 (nI mi) (nI ρ) (nI N8) zmf yhmf r1 (fun u => r = u) (t + 1) a (nI m) ↔ R_s_believedByX_L0 (nI mi) (nI ρ) (nI N8) zmf yhmf r1 (fun u => r = u) t (blst F S (F (114 + 3 * mi)) (F (114 + 3 * mi + 1)) (nI ρ) m a) (nI (m + 1))
    have hm8 : m < 100000 := by omega
    obtain ⟨g1, g2, g3⟩ := h2 m (by rw [n8, nI_toInt (by omega)]; omega)
    rw [R_s_believedByX_L0, goI, if_neg (nI_nge (by omega) hm)]
    simp only [exists_eq_left, exists_eq_left', ne_eq, goN, goI, ofI1, nI_s1 hm8, tbN (R := 12) (V := 3) (c := 0) (f := zmf) (a := 12) (b := 3) (j := 0) (m := m) (by decide) (by decide) (by omega) (by omega) (by decide) (by omega) (by omega), tbN (R := 12) (V := 3) (c := 1) (f := zmf) (a := 12) (b := 3) (j := 1) (m := m) (by decide) (by decide) (by omega) (by omega) (by decide) (by omega) (by omega), tbN (R := 12) (V := 3) (c := 2) (f := zmf) (a := 12) (b := 3) (j := 2) (m := m) (by decide) (by decide) (by omega) (by omega) (by decide) (by omega) (by omega), tbN (R := 4) (V := 3) (c := 1) (f := yhmf) (a := 4) (b := 3) (j := 1) (m := mi) (by decide) (by decide) (by omega) (by omega) (by decide) (by omega) (by omega), Nat.add_zero, g1, g2, g3, hr1]
    unfold blst
    by_cases q1 : F (44 + 3 * m) = nI ρ
    · rw [if_pos q1, if_pos q1]
      by_cases qa : F (114 + 3 * mi) = 1
      · rw [if_pos qa, if_pos qa]
        by_cases qe : S (16 + m) < a
        · rw [if_pos qe, if_pos qe]
        · rw [if_neg qe, if_neg qe]
      · rw [if_neg qa, if_neg qa]
        by_cases qb : F (114 + 3 * mi) = 2
        · rw [if_pos qb, if_pos qb]
          by_cases qd : a < S (16 + m)
          · rw [if_pos qd, if_pos qd]
          · rw [if_neg qd, if_neg qd]
        · rw [if_neg qb, if_neg qb]
          by_cases qc : F (114 + 3 * mi) = 3
          · rw [if_pos qc, if_pos qc, m3 qc]
            by_cases qf : F (44 + 3 * m + 2) = F (114 + 3 * mi + 1)
            · rw [if_pos qf, if_pos qf]
            · rw [if_neg qf, if_neg qf]
          · rw [if_neg qc, if_neg qc]
    · rw [if_neg q1, if_neg q1]
theorem fo_id {A : Type} {st : Nat → A → A} : ∀ (k m : Nat) (a : A), (∀ j : Nat, m ≤ j → j < m + k → ∀ a : A, st j a = a) → fo st m k a = a
  | 0, _, _, _ => rfl
  | k + 1, m, a, h => by
    show fo st (m + 1) k (st m a) = a
    rw [h m (by omega) (by omega)]
    exact fo_id k (m + 1) a (fun j h1 h2 => h j (by omega) (by omega))
/-- one mark of a town on a reel: the last is the first -/
theorem fo_one {c : Nat → Prop} [DecidablePred c] {v : Nat → Int32} {st : Nat → Int32 → Int32} (hst : ∀ j : Nat, ∀ a : Int32, st j a = if c j then v j else a) : ∀ (k m : Nat) (d : Int32), (∀ i j : Nat, m ≤ i → i < m + k → m ≤ j → j < m + k → c i → c j → i = j) → fo st m k d = ff c v d m k
  | 0, _, _, _ => rfl
  | k + 1, m, d, hu => by
    show fo st (m + 1) k (st m d) = (if c m then v m else ff c v d (m + 1) k)
    rw [hst]
    by_cases q : c m
    · rw [if_pos q, if_pos q]
      refine fo_id k (m + 1) _ (fun j h1 h2 a => ?_)
      rw [hst, if_neg]
      intro w
      have := hu m j (by omega) (by omega) (by omega) (by omega) q w
      omega
    · rw [if_neg q, if_neg q]
      exact fo_one hst k (m + 1) d (fun i j h1 h2 h3 h4 => hu i j (by omega) (by omega) (by omega) (by omega))
/-- another default: the same where something is found -/
theorem ff_def {c : Nat → Prop} [DecidablePred c] {v : Nat → Int32} {d d2 : Int32} (hd : d < 0) : ∀ (k m : Nat), (∀ j : Nat, m ≤ j → j < m + k → ¬ v j < 0) → (if ff c v d m k < 0 then d2 else ff c v d m k) = ff c v d2 m k
  | 0, _, _ => by show (if d < 0 then d2 else d) = d2; rw [if_pos hd]
  | k + 1, m, h => by
    show (if (if c m then v m else ff c v d (m + 1) k) < 0 then d2 else (if c m then v m else ff c v d (m + 1) k)) = (if c m then v m else ff c v d2 (m + 1) k)
    by_cases q : c m
    · rw [if_pos q, if_pos q, if_neg (h m (by omega) (by omega))]
    · rw [if_neg q, if_neg q]
      exact ff_def hd k (m + 1) (fun j h1 h2 => h j (by omega) (by omega))
theorem bel_m {F S : Nat → Int32} {mi k N8 : Nat} {r rl : Int32} (n8 : F 8 = nI N8) (hN8 : N8 ≤ 12) (hmi : mi ≤ 1000) (hk9 : k ≤ 1000) (hrl : F (126 + k) = rl) (hr8 : 0 ≤ rl.toInt ∧ rl.toInt ≤ 8) (hkd : IV (F (114 + 3 * mi)) 0 3) (hU : U3 F) (hS : ∀ m : Nat, (m : Int) < (F 8).toInt → 0 ≤ (S (16 + m)).toInt) (h : R_m_believesOfX (nI mi) (nI k) F S r) : r = bel F S mi rl := by
  unfold R_m_believesOfX R_m_reelAtX at h
  obtain ⟨ρ, e1, h1⟩ := nI_oF hr8.1
  have hρ : ρ ≤ 1000 := by omega
  simp only [exists_eq_left, ix_126 hk9, hrl, ix_114_3_0 hmi, ix_114_3_1 hmi, goN, goI, ne_eq] at h
  unfold bel
  rw [n8, nI_toInt (by omega), Int.toNat_natCast]
  have ei : ((8 : Int32) + rl).toNatClampNeg = 8 + rl.toInt.toNat := by rw [h1, Int.toNat_natCast, e1]; exact ix_8 hρ
  rw [ei] at h
  by_cases q3 : F (114 + 3 * mi) = 3
  · rw [if_pos q3] at h
    simp only [lr_mark hN8 n8, exists_eq_left] at h
    have e2 : fo (blst F S (F (114 + 3 * mi)) (F (114 + 3 * mi + 1)) rl) 0 N8 (S (8 + rl.toInt.toNat)) = ff (fun j => F (44 + 3 * j) = rl ∧ F (44 + 3 * j + 2) = F (114 + 3 * mi + 1)) (fun j => S (16 + j)) (S (8 + rl.toInt.toNat)) 0 N8 := by
      refine fo_one (fun j a => ?_) N8 0 _ (fun i j _ hi _ hj w1 w2 => hU i j (by rw [n8, nI_toInt (by omega)]; omega) (by rw [n8, nI_toInt (by omega)]; omega) (w1.1.trans w2.1.symm) (w1.2.trans w2.2.symm))
      unfold blst
      rw [q3, if_neg (show ¬ (3 : Int32) = 1 by decide), if_neg (show ¬ (3 : Int32) = 2 by decide), if_pos (show (3 : Int32) = 3 from rfl)]
      by_cases w1 : F (44 + 3 * j) = rl
      · rw [if_pos w1]
        by_cases w2 : F (44 + 3 * j + 2) = F (114 + 3 * mi + 1)
        · rw [if_pos w2, if_pos ⟨w1, w2⟩]
        · rw [if_neg w2, if_neg (fun w => w2 w.2)]
      · rw [if_neg w1, if_neg (fun w => w1 w.1)]
    rw [e2, ← ff_def (d := -2) (by decide) N8 0 (fun j _ hj w => by
      have := hS j (by rw [n8, nI_toInt (by omega)]; omega)
      rw [lt_I, zI] at w
      omega)]
    by_cases w : (0 : Int32) ≤ ff (fun j => F (44 + 3 * j) = rl ∧ F (44 + 3 * j + 2) = F (114 + 3 * mi + 1)) (fun j => S (16 + j)) (-2) 0 N8
    · rw [if_pos w] at h
      rw [if_neg (by rw [le_I] at w; rw [lt_I]; omega)]
      exact h
    · rw [if_neg w] at h
      rw [if_pos (by rw [le_I] at w; rw [lt_I]; omega)]
      exact h
  · rw [if_neg q3] at h
    obtain ⟨t, h⟩ := h
    by_cases q0 : F (114 + 3 * mi) = 0
    · -- no mark is taken
      rw [fo_id N8 0 _ (fun j _ hj a => by
        unfold blst
        rw [q0, if_neg (show ¬ (0 : Int32) = 1 by decide), if_neg (show ¬ (0 : Int32) = 2 by decide), if_neg (show ¬ (0 : Int32) = 3 by decide)]
        by_cases w : F (44 + 3 * j) = rl
        · rw [if_pos w]
        · rw [if_neg w])]
      cases t with
      | zero => exact h.elim
      | succ t =>
        rw [R_m_believesOfX_L0] at h
        simp only [exists_eq_left, tc_8, n8, goI, goN, ne_eq] at h
        rw [if_pos q0] at h
        split at h
        · exact h
        · exact h
    · have e := lpE (N := N8) (κ := fun u => r = u) (st := blst F S (F (114 + 3 * mi)) (F (114 + 3 * mi + 1)) rl) (L := fun n a u => R_m_believesOfX_L0 F S rl (F (114 + 3 * mi)) (fun u => r = u) (fun u => r = u) n a u) (fun a u h => h) (fun t a => ?_) (fun t a m hm => ?_) (S (8 + rl.toInt.toNat))
      · exact e.mp ⟨t, h⟩
      · show R_m_believesOfX_L0 F S rl (F (114 + 3 * mi)) (fun u => r = u) (fun u => r = u) (t + 1) a (nI N8) ↔ r = a
        rw [R_m_believesOfX_L0]
        simp only [exists_eq_left, tc_8, n8]
        rw [goI, if_pos (Int32.le_refl _)]
      · show R_m_believesOfX_L0 F S rl (F (114 + 3 * mi)) (fun u => r = u) (fun u => r = u) (t + 1) a (nI m) ↔ R_m_believesOfX_L0 F S rl (F (114 + 3 * mi)) (fun u => r = u) (fun u => r = u) t (blst F S (F (114 + 3 * mi)) (F (114 + 3 * mi + 1)) rl m a) (nI (m + 1))
        have hm8 : m < 100000 := by omega
        have hm9 : m ≤ 1000 := by omega
        rw [R_m_believesOfX_L0]
        simp only [exists_eq_left, tc_8, n8]
        rw [goI, if_neg (nI_nge (by omega) hm), goI, if_neg q0]
        have eL : ∀ x y z : Int32, R_m_leastX x y z ↔ z = if y < x then y else x := fun x y z => ⟨le_sh, fun w => by
          unfold R_m_leastX
          rw [goI, iteE, w]
          by_cases q : y < x
          · rw [if_pos q, if_pos (by rw [lt_I] at q; rw [le_I]; omega)]
          · rw [if_neg q]
            by_cases q2 : y ≤ x
            · rw [if_pos q2]
              exact Int32.toInt_inj.mp (by rw [lt_I] at q; rw [le_I] at q2; omega)
            · rw [if_neg q2]⟩
        have eM : ∀ x y z : Int32, R_m_mostX x y z ↔ z = if y < x then x else y := fun x y z => ⟨mo_sh, fun w => by
          unfold R_m_mostX
          rw [goI, iteE, w]
          by_cases q : y < x
          · rw [if_pos q, if_neg (by rw [lt_I] at q; rw [le_I]; omega)]
          · rw [if_neg q, if_pos (by rw [lt_I] at q; rw [le_I]; omega)]⟩
        simp only [exists_eq_left, exists_eq_left', ne_eq, goN, goI, ofI1, nI_s1 hm8, ix_44_3_0 hm9, ix_16 hm9, eL, eM]
        unfold blst
        by_cases q1 : F (44 + 3 * m) = rl
        · rw [if_pos q1, if_pos q1]
          by_cases qa : F (114 + 3 * mi) = 1
          · rw [if_pos qa, if_pos qa]
          · rw [if_neg qa, if_neg qa]
            have qb : F (114 + 3 * mi) = 2 := by
              obtain ⟨kd, ek, hk⟩ := ivN 3 hkd
              rw [ek] at q0 qa q3 ⊢
              match kd, hk with
              | 0, _ => exact absurd (by decide) q0
              | 1, _ => exact absurd (by decide) qa
              | 2, _ => decide
              | 3, _ => exact absurd (by decide) q3
            rw [if_pos qb]
            by_cases qd : a < S (16 + m)
            · rw [if_pos qd, if_neg (by rw [lt_I] at qd ⊢; omega)]
            · rw [if_neg qd]
              by_cases qf : S (16 + m) < a
              · rw [if_pos qf]
              · rw [if_neg qf, Int32.toInt_inj.mp (show (S (16 + m)).toInt = a.toInt by rw [lt_I] at qd qf; omega)]
        · rw [if_neg q1, if_neg q1]
