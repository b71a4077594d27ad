set_option maxRecDepth 100000
set_option maxHeartbeats 4000000
/-- what is told and no act changes -/
def TO (F : Nat → Int32) (yhnf : Nat → Int32) (yhtn : Int32) (yhtf : Nat → Int32) (yhjn : Int32) (yhjf : Nat → Int32) (yhmn : Int32) (yhmf : Nat → Int32) (yhbn : Int32) (yhbf : Nat → Int32) (yhsn : Int32) (yhsf : Nat → Int32) (yhcn : Int32) (yhcf : Nat → Int32) : Prop :=
  (yhtn = F 7 ∧ yhjn = F 9 ∧ yhmn = F 11 ∧ yhsn = F 13 ∧ yhcn = F 14) ∧ ((yhbn = 0 ∧ F 134 = 0) ∨ (yhbn = 1 ∧ 0 < (F 134).toInt)) ∧ (∀ j : Nat, j < 6 → yhnf j = F j) ∧ TV F yhtf 7 40 1 ∧ TV F yhjf 9 80 2 ∧
  (∀ k : Nat, (k : Int) < (F 11).toInt → yhmf (3 * k) = F (114 + 3 * k) ∧ yhmf (3 * k + 2) = F (114 + 3 * k + 2) ∧ (F (114 + 3 * k) = 3 → yhmf (3 * k + 1) = F (114 + 3 * k + 1))) ∧
  (0 < (F 134).toInt → ∀ j : Nat, j < 3 → yhbf j = F (134 + j)) ∧ TV F yhsf 13 137 3 ∧ TV F yhcf 14 155 2
/-- the State that a text tells -/
def SG (G : Nat → Int32) (zrn zmn zwn zpn zmd ztr : Int32) (zrf zmf zwf zpf : Nat → Int32) : Prop :=
  (zrn = G 6 ∧ zmn = G 8 ∧ zwn = G 10 ∧ zpn = G 12 ∧ zmd = 0 ∧ ztr = 0) ∧ TV G zrf 6 16 3 ∧ TV G zmf 8 44 3 ∧ TV G zwf 10 96 3 ∧ (∀ k : Nat, (k : Int) < (G 12).toInt → zpf (2 * k) = G (126 + k) ∧ zpf (2 * k + 1) = G 2)
theorem cp_t {f g x : Nat → Int32} {n : Int32} {m : Nat} (hn : n.toInt = m) (e : x = va_cpy f g (0 : Int32).toNatClampNeg (0 : Int32).toNatClampNeg n.toNatClampNeg) : ∀ i : Nat, i < m → x i = f i := fun i hi => by
  rw [e, cpy0 (by omega)]
theorem TV_cpy {F f g : Nat → Int32} {c b w cap : Nat} (h : TV F f c b w) (hcap : (F c).toInt ≤ cap) (hg : ∀ i : Nat, i < w * cap → g i = f i) : TV F g c b w := by
  intro k j hk hj
  have h1 : k + 1 ≤ cap := by omega
  have h2 := Nat.mul_le_mul_left w h1
  rw [Nat.mul_add, Nat.mul_one] at h2
  rw [hg _ (by omega)]
  exact h k j hk hj
theorem SG.copy {G : Nat → Int32} {xrf xmf xwf xpf : Nat → Int32} {ymd ytr yrn ymn ywn ypn : Int32} {yrf ymf ywf ypf xrg xmg xwg xpg : Nat → Int32} {xrk xmk xwk xpk xmd2 xtr2 : Int32} (hB : FIv G) (h12 : IV (G 12) 0 8) (h : SG G yrn ymn ywn ypn ymd ytr yrf ymf ywf ypf) (hc : R_s_copyFromX xrf xmf xwf xpf ymd ytr yrn yrf ymn ymf ywn ywf ypn ypf xrg xmg xwg xpg xrk xmk xwk xpk xmd2 xtr2) : SG G xrk xmk xwk xpk xmd2 xtr2 xrg xmg xwg xpg := by
  obtain ⟨⟨a1, a2, a3, a4, a5, a6⟩, h1, h2, h3, h4⟩ := h
  obtain ⟨⟨-, b6⟩, ⟨-, b7⟩, ⟨-, b8⟩, ⟨-, b9⟩, ⟨-, b10⟩, ⟨-, b11⟩, ⟨-, b13⟩, ⟨-, b14⟩⟩ := hB
  obtain ⟨-, b12⟩ := h12
  unfold R_s_copyFromX R_t_copyFrom8_3X R_t_copyFrom12_3X R_t_copyFrom6_3X R_t_copyFrom8_2X at hc
  obtain ⟨g1, k1, ⟨e1, e2⟩, g2, k2, ⟨e3, e4⟩, g3, k3, ⟨e5, e6⟩, g4, k4, ⟨e7, e8⟩, rfl, rfl, rfl, rfl, rfl, rfl, rfl, rfl, rfl, rfl⟩ := hc
  refine ⟨⟨e2.trans a1, e4.trans a2, e6.trans a3, e8.trans a4, a5, a6⟩, TV_cpy (cap := 8) h1 (by omega) (fun i hi => cp_t (m := 24) (by decide) e1 i (by omega)), TV_cpy (cap := 12) h2 (by omega) (fun i hi => cp_t (m := 36) (by decide) e3 i (by omega)), TV_cpy (cap := 6) h3 (by omega) (fun i hi => cp_t (m := 18) (by decide) e5 i (by omega)), fun k hk => ?_⟩
  have q := cp_t (m := 16) (by decide) e7
  rw [q _ (by omega), q _ (by omega)]
  exact h4 k hk
theorem hc_all {xrf xmf xwf xpf xhnf xhtf xhjf xhmf xhbf xhsf xhcf : Nat → Int32} {ymd ytr yrn : Int32} {yrf : Nat → Int32} {ymn : Int32} {ymf : Nat → Int32} {ywn : Int32} {ywf : Nat → Int32} {ypn : Int32} {ypf : Nat → Int32} {yhnn : Int32} {yhnf : Nat → Int32} {yhtn : Int32} {yhtf : Nat → Int32} {yhjn : Int32} {yhjf : Nat → Int32} {yhmn : Int32} {yhmf : Nat → Int32} {yhbn : Int32} {yhbf : Nat → Int32} {yhsn : Int32} {yhsf : Nat → Int32} {yhcn : Int32} {yhcf xrg xmg xwg xpg : Nat → Int32} {xrk xmk xwk xpk xmd2 xtr2 : Int32} {xhng xhtg xhjg xhmg xhbg xhsg xhcg : Nat → Int32} {xhnk xhtk xhjk xhmk xhbk xhsk xhck : Int32} (h : R_h_copyFromX xrf xmf xwf xpf xhnf xhtf xhjf xhmf xhbf xhsf xhcf ymd ytr yrn yrf ymn ymf ywn ywf ypn ypf yhnn yhnf yhtn yhtf yhjn yhjf yhmn yhmf yhbn yhbf yhsn yhsf yhcn yhcf xrg xmg xwg xpg xrk xmk xwk xpk xmd2 xtr2 xhng xhtg xhjg xhmg xhbg xhsg xhcg xhnk xhtk xhjk xhmk xhbk xhsk xhck) : R_s_copyFromX xrf xmf xwf xpf ymd ytr yrn yrf ymn ymf ywn ywf ypn ypf xrg xmg xwg xpg xrk xmk xwk xpk xmd2 xtr2 ∧ R_t_copyFrom1_6X xhnf yhnn yhnf xhng xhnk ∧ R_t_copyFrom4_1X xhtf yhtn yhtf xhtg xhtk ∧ R_t_copyFrom8_2X xhjf yhjn yhjf xhjg xhjk ∧ R_t_copyFrom4_3X xhmf yhmn yhmf xhmg xhmk ∧ R_t_copyFrom1_3X xhbf yhbn yhbf xhbg xhbk ∧ R_t_copyFrom6_3X xhsf yhsn yhsf xhsg xhsk ∧ R_t_copyFrom6_2X xhcf yhcn yhcf xhcg xhck := by
  unfold R_h_copyFromX at h
  refine exL10 h ?_
  clear h
  intro xrg_1 xmg_2 xwg_3 xpg_4 xrk_5 xmk_6 xwk_7 xpk_8 xmd2_9 xtr2_10 h
  obtain ⟨hs, h⟩ := h
  refine Exists.elim h ?_
  clear h
  intro h0g_13 h
  refine Exists.elim h ?_
  clear h
  intro h0k_14 h
  obtain ⟨tn, h⟩ := h
  refine Exists.elim h ?_
  clear h
  intro h0g_17 h
  refine Exists.elim h ?_
  clear h
  intro h0k_18 h
  obtain ⟨tt, h⟩ := h
  refine Exists.elim h ?_
  clear h
  intro h0g_21 h
  refine Exists.elim h ?_
  clear h
  intro h0k_22 h
  obtain ⟨tj, h⟩ := h
  refine Exists.elim h ?_
  clear h
  intro h0g_25 h
  refine Exists.elim h ?_
  clear h
  intro h0k_26 h
  obtain ⟨tm, h⟩ := h
  refine Exists.elim h ?_
  clear h
  intro h0g_29 h
  refine Exists.elim h ?_
  clear h
  intro h0k_30 h
  obtain ⟨tb, h⟩ := h
  refine Exists.elim h ?_
  clear h
  intro h0g_33 h
  refine Exists.elim h ?_
  clear h
  intro h0k_34 h
  obtain ⟨ts, h⟩ := h
  refine Exists.elim h ?_
  clear h
  intro h0g_37 h
  refine Exists.elim h ?_
  clear h
  intro h0k_38 h
  obtain ⟨tc, h⟩ := h
  obtain ⟨rfl, rfl, rfl, rfl, rfl, rfl, rfl, rfl, rfl, rfl, rfl, rfl, rfl, rfl, rfl, rfl, rfl, rfl, rfl, rfl, rfl, rfl, rfl, rfl⟩ := h
  exact ⟨hs, tn, tt, tj, tm, tb, ts, tc⟩
theorem TO.copy {F : Nat → Int32} {xrf xmf xwf xpf xhnf xhtf xhjf xhmf xhbf xhsf xhcf : Nat → Int32} {ymd ytr yrn : Int32} {yrf : Nat → Int32} {ymn : Int32} {ymf : Nat → Int32} {ywn : Int32} {ywf : Nat → Int32} {ypn : Int32} {ypf : Nat → Int32} {yhnn : Int32} {yhnf : Nat → Int32} {yhtn : Int32} {yhtf : Nat → Int32} {yhjn : Int32} {yhjf : Nat → Int32} {yhmn : Int32} {yhmf : Nat → Int32} {yhbn : Int32} {yhbf : Nat → Int32} {yhsn : Int32} {yhsf : Nat → Int32} {yhcn : Int32} {yhcf xrg xmg xwg xpg : Nat → Int32} {xrk xmk xwk xpk xmd2 xtr2 : Int32} {xhng xhtg xhjg xhmg xhbg xhsg xhcg : Nat → Int32} {xhnk xhtk xhjk xhmk xhbk xhsk xhck : Int32} (hB : FIv F) (h : TO F yhnf yhtn yhtf yhjn yhjf yhmn yhmf yhbn yhbf yhsn yhsf yhcn yhcf) (hc : R_h_copyFromX xrf xmf xwf xpf xhnf xhtf xhjf xhmf xhbf xhsf xhcf ymd ytr yrn yrf ymn ymf ywn ywf ypn ypf yhnn yhnf yhtn yhtf yhjn yhjf yhmn yhmf yhbn yhbf yhsn yhsf yhcn yhcf xrg xmg xwg xpg xrk xmk xwk xpk xmd2 xtr2 xhng xhtg xhjg xhmg xhbg xhsg xhcg xhnk xhtk xhjk xhmk xhbk xhsk xhck) : TO F xhng xhtk xhtg xhjk xhjg xhmk xhmg xhbk xhbg xhsk xhsg xhck xhcg := by
  obtain ⟨-, tn, tt, tj, tm, tb, ts, tc⟩ := hc_all hc
  unfold R_t_copyFrom1_6X at tn
  unfold R_t_copyFrom4_1X at tt
  unfold R_t_copyFrom8_2X at tj
  unfold R_t_copyFrom4_3X at tm
  unfold R_t_copyFrom1_3X at tb
  unfold R_t_copyFrom6_3X at ts
  unfold R_t_copyFrom6_2X at tc
  obtain ⟨⟨a1, a2, a3, a4, a5⟩, hb, hn, h1, h2, hm, hbf, h3, h4⟩ := h
  obtain ⟨⟨-, b6⟩, ⟨-, b7⟩, ⟨-, b8⟩, ⟨-, b9⟩, ⟨-, b10⟩, ⟨-, b11⟩, ⟨-, b13⟩, ⟨-, b14⟩⟩ := hB
  refine ⟨⟨tt.2.trans a1, tj.2.trans a2, tm.2.trans a3, ts.2.trans a4, tc.2.trans a5⟩, ?_, fun j hj => ?_, TV_cpy (cap := 4) h1 (by omega) (fun i hi => cp_t (m := 4) (by decide) tt.1 i (by omega)), TV_cpy (cap := 8) h2 (by omega) (fun i hi => cp_t (m := 16) (by decide) tj.1 i (by omega)), fun k hk => ?_, fun q j hj => ?_, TV_cpy (cap := 6) h3 (by omega) (fun i hi => cp_t (m := 18) (by decide) ts.1 i (by omega)), TV_cpy (cap := 6) h4 (by omega) (fun i hi => cp_t (m := 12) (by decide) tc.1 i (by omega))⟩
  · rw [tb.2]; exact hb
  · rw [cp_t (m := 6) (by decide) tn.1 j (by omega)]; exact hn j hj
  · have q := cp_t (m := 12) (by decide) tm.1
    rw [q _ (by omega), q _ (by omega), q _ (by omega)]
    exact hm k hk
  · rw [cp_t (m := 3) (by decide) tb.1 j (by omega)]; exact hbf q j hj
theorem HG_TO {G : Nat → Int32} {ndg : Nat → Int32} {ndk : Int32} {nmg : Nat → Int64} {qhbg : Nat → Int32} {qhbk : Int32} {qhcg : Nat → Int32} {qhck : Int32} {qhjg : Nat → Int32} {qhjk : Int32} {qhmg : Nat → Int32} {qhmk : Int32} {qhng : Nat → Int32} {qhnk : Int32} {qhsg : Nat → Int32} {qhsk : Int32} {qhtg : Nat → Int32} {qhtk : Int32} {qmg : Nat → Int32} {qmk : Int32} {qpg : Nat → Int32} {qpk : Int32} {qrg : Nat → Int32} {qrk : Int32} {qwg : Nat → Int32} {qwk : Int32} (hR : HRel G ndk nmg ndg qrk qrg qmk qmg qwk qwg qpk qhnk qhtk qhjk qhmk qhbk qhsk qhck) (hV : HV G qrg qmg qwg qpg qhng qhtg qhjg qhmg qhbg qhsg qhcg) (h15 : G 15 ≠ 0) : TO G qhng qhtk qhtg qhjk qhjg qhmk qhmg qhbk qhbg qhsk qhsg qhck qhcg := by
  obtain ⟨-, ⟨-, r2, -, r4, -, r6, -, r8, r9⟩, -, -, hb, -⟩ := hR
  obtain ⟨-, -, -, -, hn, h1, h2, hm, hbf, h3, h4⟩ := hV
  exact ⟨⟨r2, r4, r6, r8, r9⟩, hb, hn h15, h1, h2, hm, hbf, h3, h4⟩
theorem HG_SG {G : Nat → Int32} {ndg : Nat → Int32} {ndk : Int32} {nmg : Nat → Int64} {qhbg : Nat → Int32} {qhbk : Int32} {qhcg : Nat → Int32} {qhck : Int32} {qhjg : Nat → Int32} {qhjk : Int32} {qhmg : Nat → Int32} {qhmk : Int32} {qhng : Nat → Int32} {qhnk : Int32} {qhsg : Nat → Int32} {qhsk : Int32} {qhtg : Nat → Int32} {qhtk qmd2 : Int32} {qmg : Nat → Int32} {qmk : Int32} {qpg : Nat → Int32} {qpk : Int32} {qrg : Nat → Int32} {qrk qtr2 : Int32} {qwg : Nat → Int32} {qwk : Int32} (hR : HRel G ndk nmg ndg qrk qrg qmk qmg qwk qwg qpk qhnk qhtk qhjk qhmk qhbk qhsk qhck) (hV : HV G qrg qmg qwg qpg qhng qhtg qhjg qhmg qhbg qhsg qhcg) (e1 : qmd2 = 0) (e2 : qtr2 = 0) : SG G qrk qmk qwk qpk qmd2 qtr2 qrg qmg qwg qpg := by
  obtain ⟨-, ⟨r1, -, r3, -, r5, -, r7, -, -⟩, -⟩ := hR
  obtain ⟨h1, h2, h3, h4, -⟩ := hV
  exact ⟨⟨r1, r3, r5, r7, e1, e2⟩, h1, h2, h3, h4⟩
theorem FIv.cg {F G : Nat → Int32} (e : ∀ i : Nat, i < 311 → G i = F i) (h : FIv F) : FIv G := by
  unfold FIv at h ⊢
  rw [e 6 (by first | decide | omega), e 7 (by first | decide | omega), e 8 (by first | decide | omega), e 9 (by first | decide | omega), e 10 (by first | decide | omega), e 11 (by first | decide | omega), e 13 (by first | decide | omega), e 14 (by first | decide | omega)]
  exact h
theorem RV.cg {F G : Nat → Int32} (e : ∀ i : Nat, i < 311 → G i = F i) (hB : FIv F) (h12 : IV (F 12) 0 8) (h : RV F) : RV G := RV_keep hB h12 h (by rw [e 6 (by first | decide | omega)]; exact Int.le_refl _) (by rw [e 7 (by first | decide | omega)]; exact Int.le_refl _) (fun i hi => e i (by omega))
theorem TO.cg {F G : Nat → Int32} {yhnf : Nat → Int32} {yhtn : Int32} {yhtf : Nat → Int32} {yhjn : Int32} {yhjf : Nat → Int32} {yhmn : Int32} {yhmf : Nat → Int32} {yhbn : Int32} {yhbf : Nat → Int32} {yhsn : Int32} {yhsf : Nat → Int32} {yhcn : Int32} {yhcf : Nat → Int32} (e : ∀ i : Nat, i < 311 → G i = F i) (hB : FIv F) (h : TO F yhnf yhtn yhtf yhjn yhjf yhmn yhmf yhbn yhbf yhsn yhsf yhcn yhcf) : TO G yhnf yhtn yhtf yhjn yhjf yhmn yhmf yhbn yhbf yhsn yhsf yhcn yhcf := by
  obtain ⟨⟨a1, a2, a3, a4, a5⟩, hb, hn, h1, h2, hm, hbf, h3, h4⟩ := h
  obtain ⟨⟨-, b6⟩, ⟨-, b7⟩, ⟨-, b8⟩, ⟨-, b9⟩, ⟨-, b10⟩, ⟨-, b11⟩, ⟨-, b13⟩, ⟨-, b14⟩⟩ := hB
  refine ⟨⟨?_, ?_, ?_, ?_, ?_⟩, ?_, fun j hj => ?_, TV_keep (cap := 4) h1 (e 7 (by first | decide | omega)) (by omega) (fun i _ hi => e i (by omega)), TV_keep (cap := 8) h2 (e 9 (by first | decide | omega)) (by omega) (fun i _ hi => e i (by omega)), fun k hk => ?_, fun q j hj => ?_, TV_keep (cap := 6) h3 (e 13 (by first | decide | omega)) (by omega) (fun i _ hi => e i (by omega)), TV_keep (cap := 6) h4 (e 14 (by first | decide | omega)) (by omega) (fun i _ hi => e i (by omega))⟩
  · rw [e 7 (by first | decide | omega)]; exact a1
  · rw [e 9 (by first | decide | omega)]; exact a2
  · rw [e 11 (by first | decide | omega)]; exact a3
  · rw [e 13 (by first | decide | omega)]; exact a4
  · rw [e 14 (by first | decide | omega)]; exact a5
  · rw [e 134 (by first | decide | omega)]; exact hb
  · rw [e j (by omega)]; exact hn j hj
  · rw [e 11 (by first | decide | omega)] at hk
    rw [e (114 + 3 * k) (by omega), e (114 + 3 * k + 2) (by omega), e (114 + 3 * k + 1) (by omega)]
    exact hm k hk
  · rw [e 134 (by first | decide | omega)] at q
    rw [e (134 + j) (by omega)]
    exact hbf q j hj
theorem SG_SR {F G S : Nat → Int32} {zrn zmn zwn zpn zmd ztr : Int32} {zrf zmf zwf zpf : Nat → Int32} (e : ∀ i : Nat, i < 311 → G i = F i) (hB : FIv F) (h12 : IV (F 12) 0 8) (h : SG F zrn zmn zwn zpn zmd ztr zrf zmf zwf zpf) (hS : StF F S) : SR G S zrn zmn zwn zpn zmd ztr zrf zmf zwf zpf := by
  obtain ⟨⟨a1, a2, a3, a4, a5, a6⟩, h1, h2, h3, h4⟩ := h
  obtain ⟨s1, s2, s3, s4, s5, s6⟩ := hS
  obtain ⟨⟨-, b6⟩, ⟨-, b7⟩, ⟨-, b8⟩, ⟨-, b9⟩, ⟨-, b10⟩, ⟨-, b11⟩, ⟨-, b13⟩, ⟨-, b14⟩⟩ := hB
  obtain ⟨-, b12⟩ := h12
  refine ⟨⟨?_, ?_, ?_, ?_, a5.trans s6.symm, a6.trans s5.symm⟩, fun k hk => ?_, fun k hk => ?_, fun k hk => ?_, fun k hk => ?_⟩
  · rw [e 6 (by first | decide | omega)]; exact a1
  · rw [e 8 (by first | decide | omega)]; exact a2
  · rw [e 10 (by first | decide | omega)]; exact a3
  · rw [e 12 (by first | decide | omega)]; exact a4
  · rw [e 6 (by first | decide | omega)] at hk
    rw [e (16 + 3 * k + 2) (by omega), (s1 k hk).1, (s1 k hk).2]
    exact ⟨h1 k 0 hk (by omega), h1 k 1 hk (by omega), h1 k 2 hk (by omega)⟩
  · rw [e 8 (by first | decide | omega)] at hk
    rw [e (44 + 3 * k) (by omega), e (44 + 3 * k + 2) (by omega), s2 k hk]
    exact ⟨h2 k 0 hk (by omega), h2 k 1 hk (by omega), h2 k 2 hk (by omega)⟩
  · rw [e 10 (by first | decide | omega)] at hk
    rw [e (96 + 3 * k) (by omega), e (96 + 3 * k + 2) (by omega), s3 k hk]
    exact ⟨h3 k 0 hk (by omega), h3 k 1 hk (by omega), h3 k 2 hk (by omega)⟩
  · rw [e 12 (by first | decide | omega)] at hk
    rw [e (126 + k) (by omega), s4 k hk]
    exact h4 k hk
theorem TxR_in {T : Nat → Int32} {n : Int32} : ∀ (k : Nat) (F : Nat → Int32) (a : Int32) (v : (Nat → Int32) × Int32), TxR T n k F a (.inr v) → v.1 15 ≠ 0 ∧ v.1 12 ≠ 0 ∧ v.1 11 ≠ 0 := by
  intro k
  induction k with
  | zero => intro F a v h; exact h.elim
  | succ k ih =>
    intro F a v h
    rw [TxR] at h
    rcases h.2 with ⟨e2, h1, h2⟩ | ⟨w, h1, h2⟩
    · cases h2
    · rcases h2 with ⟨-, h2⟩ | ⟨-, ⟨-, h2⟩ | ⟨h3, h2⟩⟩ | ⟨-, -, h2⟩
      · exact ih _ _ _ h2
      · cases h2
      · cases h2; exact h3
      · cases h2
