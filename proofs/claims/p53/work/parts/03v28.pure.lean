set_option maxRecDepth 100000
set_option maxHeartbeats 4000000
/-- what is told and no act changes -/
def TO (F : Nat → Int32) (yhnf : Nat → Int32) (yhtn : Int32) (yhtf : Nat → Int32) (yhjn : Int32) (yhjf : Nat → Int32) (yhmn : Int32) (yhmf : Nat → Int32) (yhbn : Int32) (yhbf : Nat → Int32) (yhsn : Int32) (yhsf : Nat → Int32) (yhcn : Int32) (yhcf : Nat → Int32) : Prop :=
  (yhtn = F 7 ∧ yhjn = F 9 ∧ yhmn = F 11 ∧ yhsn = F 13 ∧ yhcn = F 14) ∧ ((yhbn = 0 ∧ F 134 = 0) ∨ (yhbn = 1 ∧ 0 < (F 134).toInt)) ∧ (∀ j : Nat, j < 6 → yhnf j = F j) ∧ TV F yhtf 7 40 1 ∧ TV F yhjf 9 80 2 ∧
  (∀ k : Nat, (k : Int) < (F 11).toInt → yhmf (3 * k) = F (114 + 3 * k) ∧ yhmf (3 * k + 2) = F (114 + 3 * k + 2) ∧ (F (114 + 3 * k) = 3 → yhmf (3 * k + 1) = F (114 + 3 * k + 1))) ∧
  (0 < (F 134).toInt → ∀ j : Nat, j < 3 → yhbf j = F (134 + j)) ∧ TV F yhsf 13 137 3 ∧ TV F yhcf 14 155 2
/-- the State that a text tells -/
def SG (G : Nat → Int32) (zrn zmn zwn zpn zmd ztr : Int32) (zrf zmf zwf zpf : Nat → Int32) : Prop :=
  (zrn = G 6 ∧ zmn = G 8 ∧ zwn = G 10 ∧ zpn = G 12 ∧ zmd = 0 ∧ ztr = 0) ∧ TV G zrf 6 16 3 ∧ TV G zmf 8 44 3 ∧ TV G zwf 10 96 3 ∧ (∀ k : Nat, (k : Int) < (G 12).toInt → zpf (2 * k) = G (126 + k) ∧ zpf (2 * k + 1) = G 2)
theorem cp_t {f g x : Nat → Int32} {n : Int32} {m : Nat} (hn : n.toInt = m) (e : x = va_cpy f g (0 : Int32).toNatClampNeg (0 : Int32).toNatClampNeg n.toNatClampNeg) : ∀ i : Nat, i < m → x i = f i := fun i hi => by
  rw [e, cpy0 (by omega)]
theorem TV_cpy {F f g : Nat → Int32} {c b w cap : Nat} (h : TV F f c b w) (hcap : (F c).toInt ≤ cap) (hg : ∀ i : Nat, i < w * cap → g i = f i) : TV F g c b w := by
  intro k j hk hj
  have h1 : k + 1 ≤ cap := by omega
  have h2 := Nat.mul_le_mul_left w h1
  rw [Nat.mul_add, Nat.mul_one] at h2
  rw [hg _ (by omega)]
  exact h k j hk hj
theorem SG.copy {G : Nat → Int32} {xrf xmf xwf xpf : Nat → Int32} {ymd ytr yrn ymn ywn ypn : Int32} {yrf ymf ywf ypf xrg xmg xwg xpg : Nat → Int32} {xrk xmk xwk xpk xmd2 xtr2 : Int32} (hB : FIv G) (h12 : IV (G 12) 0 8) (h : SG G yrn ymn ywn ypn ymd ytr yrf ymf ywf ypf) (hc : R_s_copyFromX xrf xmf xwf xpf ymd ytr yrn yrf ymn ymf ywn ywf ypn ypf xrg xmg xwg xpg xrk xmk xwk xpk xmd2 xtr2) : SG G xrk xmk xwk xpk xmd2 xtr2 xrg xmg xwg xpg := by
  obtain ⟨⟨a1, a2, a3, a4, a5, a6⟩, h1, h2, h3, h4⟩ := h
  obtain ⟨⟨-, b6⟩, ⟨-, b7⟩, ⟨-, b8⟩, ⟨-, b9⟩, ⟨-, b10⟩, ⟨-, b11⟩, ⟨-, b13⟩, ⟨-, b14⟩⟩ := hB
  obtain ⟨-, b12⟩ := h12
  unfold R_s_copyFromX R_t_copyFrom8_3X R_t_copyFrom12_3X R_t_copyFrom6_3X R_t_copyFrom8_2X at hc
  obtain ⟨g1, k1, ⟨e1, e2⟩, g2, k2, ⟨e3, e4⟩, g3, k3, ⟨e5, e6⟩, g4, k4, ⟨e7, e8⟩, rfl, rfl, rfl, rfl, rfl, rfl, rfl, rfl, rfl, rfl⟩ := hc
  refine ⟨⟨e2.trans a1, e4.trans a2, e6.trans a3, e8.trans a4, a5, a6⟩, TV_cpy (cap := 8) h1 (by omega) (fun i hi => cp_t (m := 24) (by decide) e1 i (by omega)), TV_cpy (cap := 12) h2 (by omega) (fun i hi => cp_t (m := 36) (by decide) e3 i (by omega)), TV_cpy (cap := 6) h3 (by omega) (fun i hi => cp_t (m := 18) (by decide) e5 i (by omega)), fun k hk => ?_⟩
  have q := cp_t (m := 16) (by decide) e7
  rw [q _ (by omega), q _ (by omega)]
  exact h4 k hk
theorem hc_all {xrf xmf xwf xpf xhnf xhtf xhjf xhmf xhbf xhsf xhcf : Nat → Int32} {ymd ytr yrn : Int32} {yrf : Nat → Int32} {ymn : Int32} {ymf : Nat → Int32} {ywn : Int32} {ywf : Nat → Int32} {ypn : Int32} {ypf : Nat → Int32} {yhnn : Int32} {yhnf : Nat → Int32} {yhtn : Int32} {yhtf : Nat → Int32} {yhjn : Int32} {yhjf : Nat → Int32} {yhmn : Int32} {yhmf : Nat → Int32} {yhbn : Int32} {yhbf : Nat → Int32} {yhsn : Int32} {yhsf : Nat → Int32} {yhcn : Int32} {yhcf xrg xmg xwg xpg : Nat → Int32} {xrk xmk xwk xpk xmd2 xtr2 : Int32} {xhng xhtg xhjg xhmg xhbg xhsg xhcg : Nat → Int32} {xhnk xhtk xhjk xhmk xhbk xhsk xhck : Int32} (h : R_h_copyFromX xrf xmf xwf xpf xhnf xhtf xhjf xhmf xhbf xhsf xhcf ymd ytr yrn yrf ymn ymf ywn ywf ypn ypf yhnn yhnf yhtn yhtf yhjn yhjf yhmn yhmf yhbn yhbf yhsn yhsf yhcn yhcf xrg xmg xwg xpg xrk xmk xwk xpk xmd2 xtr2 xhng xhtg xhjg xhmg xhbg xhsg xhcg xhnk xhtk xhjk xhmk xhbk xhsk xhck) : R_s_copyFromX xrf xmf xwf xpf ymd ytr yrn yrf ymn ymf ywn ywf ypn ypf xrg xmg xwg xpg xrk xmk xwk xpk xmd2 xtr2 ∧ R_t_copyFrom1_6X xhnf yhnn yhnf xhng xhnk ∧ R_t_copyFrom4_1X xhtf yhtn yhtf xhtg xhtk ∧ R_t_copyFrom8_2X xhjf yhjn yhjf xhjg xhjk ∧ R_t_copyFrom4_3X xhmf yhmn yhmf xhmg xhmk ∧ R_t_copyFrom1_3X xhbf yhbn yhbf xhbg xhbk ∧ R_t_copyFrom6_3X xhsf yhsn yhsf xhsg xhsk ∧ R_t_copyFrom6_2X xhcf yhcn yhcf xhcg xhck := by
  unfold R_h_copyFromX at h
  refine exL10 h ?_
  clear h
  intro xrg_1 xmg_2 xwg_3 xpg_4 xrk_5 xmk_6 xwk_7 xpk_8 xmd2_9 xtr2_10 h
  obtain ⟨hs, h⟩ := h
  refine Exists.elim h ?_
  clear h
  intro h0g_13 h
  refine Exists.elim h ?_
  clear h
  intro h0k_14 h
  obtain ⟨tn, h⟩ := h
  refine Exists.elim h ?_
  clear h
  intro h0g_17 h
  refine Exists.elim h ?_
  clear h
  intro h0k_18 h
  obtain ⟨tt, h⟩ := h
  refine Exists.elim h ?_
  clear h
  intro h0g_21 h
  refine Exists.elim h ?_
  clear h
  intro h0k_22 h
  obtain ⟨tj, h⟩ := h
  refine Exists.elim h ?_
  clear h
  intro h0g_25 h
  refine Exists.elim h ?_
  clear h
  intro h0k_26 h
  obtain ⟨tm, h⟩ := h
  refine Exists.elim h ?_
  clear h
  intro h0g_29 h
  refine Exists.elim h ?_
  clear h
  intro h0k_30 h
  obtain ⟨tb, h⟩ := h
  refine Exists.elim h ?_
  clear h
  intro h0g_33 h
  refine Exists.elim h ?_
  clear h
  intro h0k_34 h
  obtain ⟨ts, h⟩ := h
  refine Exists.elim h ?_
  clear h
  intro h0g_37 h
  refine Exists.elim h ?_
  clear h
  intro h0k_38 h
  obtain ⟨tc, h⟩ := h
  obtain ⟨rfl, rfl, rfl, rfl, rfl, rfl, rfl, rfl, rfl, rfl, rfl, rfl, rfl, rfl, rfl, rfl, rfl, rfl, rfl, rfl, rfl, rfl, rfl, rfl⟩ := h
  exact ⟨hs, tn, tt, tj, tm, tb, ts, tc⟩
theorem TO.copy {F : Nat → Int32} {xrf xmf xwf xpf xhnf xhtf xhjf xhmf xhbf xhsf xhcf : Nat → Int32} {ymd ytr yrn : Int32} {yrf : Nat → Int32} {ymn : Int32} {ymf : Nat → Int32} {ywn : Int32} {ywf : Nat → Int32} {ypn : Int32} {ypf : Nat → Int32} {yhnn : Int32} {yhnf : Nat → Int32} {yhtn : Int32} {yhtf : Nat → Int32} {yhjn : Int32} {yhjf : Nat → Int32} {yhmn : Int32} {yhmf : Nat → Int32} {yhbn : Int32} {yhbf : Nat → Int32} {yhsn : Int32} {yhsf : Nat → Int32} {yhcn : Int32} {yhcf xrg xmg xwg xpg : Nat → Int32} {xrk xmk xwk xpk xmd2 xtr2 : Int32} {xhng xhtg xhjg xhmg xhbg xhsg xhcg : Nat → Int32} {xhnk xhtk xhjk xhmk xhbk xhsk xhck : Int32} (hB : FIv F) (h : TO F yhnf yhtn yhtf yhjn yhjf yhmn yhmf yhbn yhbf yhsn yhsf yhcn yhcf) (hc : R_h_copyFromX xrf xmf xwf xpf xhnf xhtf xhjf xhmf xhbf xhsf xhcf ymd ytr yrn yrf ymn ymf ywn ywf ypn ypf yhnn yhnf yhtn yhtf yhjn yhjf yhmn yhmf yhbn yhbf yhsn yhsf yhcn yhcf xrg xmg xwg xpg xrk xmk xwk xpk xmd2 xtr2 xhng xhtg xhjg xhmg xhbg xhsg xhcg xhnk xhtk xhjk xhmk xhbk xhsk xhck) : TO F xhng xhtk xhtg xhjk xhjg xhmk xhmg xhbk xhbg xhsk xhsg xhck xhcg := by
  obtain ⟨-, tn, tt, tj, tm, tb, ts, tc⟩ := hc_all hc
  unfold R_t_copyFrom1_6X at tn
  unfold R_t_copyFrom4_1X at tt
  unfold R_t_copyFrom8_2X at tj
  unfold R_t_copyFrom4_3X at tm
  unfold R_t_copyFrom1_3X at tb
  unfold R_t_copyFrom6_3X at ts
  unfold R_t_copyFrom6_2X at tc
  obtain ⟨⟨a1, a2, a3, a4, a5⟩, hb, hn, h1, h2, hm, hbf, h3, h4⟩ := h
  obtain ⟨⟨-, b6⟩, ⟨-, b7⟩, ⟨-, b8⟩, ⟨-, b9⟩, ⟨-, b10⟩, ⟨-, b11⟩, ⟨-, b13⟩, ⟨-, b14⟩⟩ := hB
  refine ⟨⟨tt.2.trans a1, tj.2.trans a2, tm.2.trans a3, ts.2.trans a4, tc.2.trans a5⟩, ?_, fun j hj => ?_, TV_cpy (cap := 4) h1 (by omega) (fun i hi => cp_t (m := 4) (by decide) tt.1 i (by omega)), TV_cpy (cap := 8) h2 (by omega) (fun i hi => cp_t (m := 16) (by decide) tj.1 i (by omega)), fun k hk => ?_, fun q j hj => ?_, TV_cpy (cap := 6) h3 (by omega) (fun i hi => cp_t (m := 18) (by decide) ts.1 i (by omega)), TV_cpy (cap := 6) h4 (by omega) (fun i hi => cp_t (m := 12) (by decide) tc.1 i (by omega))⟩
  · rw [tb.2]; exact hb
  · rw [cp_t (m := 6) (by decide) tn.1 j (by omega)]; exact hn j hj
  · have q := cp_t (m := 12) (by decide) tm.1
    rw [q _ (by omega), q _ (by omega), q _ (by omega)]
    exact hm k hk
  · rw [cp_t (m := 3) (by decide) tb.1 j (by omega)]; exact hbf q j hj
theorem HG_TO {G : Nat → Int32} {ndg : Nat → Int32} {ndk : Int32} {nmg : Nat → Int64} {qhbg : Nat → Int32} {qhbk : Int32} {qhcg : Nat → Int32} {qhck : Int32} {qhjg : Nat → Int32} {qhjk : Int32} {qhmg : Nat → Int32} {qhmk : Int32} {qhng : Nat → Int32} {qhnk : Int32} {qhsg : Nat → Int32} {qhsk : Int32} {qhtg : Nat → Int32} {qhtk : Int32} {qmg : Nat → Int32} {qmk : Int32} {qpg : Nat → Int32} {qpk : Int32} {qrg : Nat → Int32} {qrk : Int32} {qwg : Nat → Int32} {qwk : Int32} (hR : HRel G ndk nmg ndg qrk qrg qmk qmg qwk qwg qpk qhnk qhtk qhjk qhmk qhbk qhsk qhck) (hV : HV G qrg qmg qwg qpg qhng qhtg qhjg qhmg qhbg qhsg qhcg) (h15 : G 15 ≠ 0) : TO G qhng qhtk qhtg qhjk qhjg qhmk qhmg qhbk qhbg qhsk qhsg qhck qhcg := by
  obtain ⟨-, ⟨-, r2, -, r4, -, r6, -, r8, r9⟩, -, -, hb, -⟩ := hR
  obtain ⟨-, -, -, -, hn, h1, h2, hm, hbf, h3, h4⟩ := hV
  exact ⟨⟨r2, r4, r6, r8, r9⟩, hb, hn h15, h1, h2, hm, hbf, h3, h4⟩
theorem HG_SG {G : Nat → Int32} {ndg : Nat → Int32} {ndk : Int32} {nmg : Nat → Int64} {qhbg : Nat → Int32} {qhbk : Int32} {qhcg : Nat → Int32} {qhck : Int32} {qhjg : Nat → Int32} {qhjk : Int32} {qhmg : Nat → Int32} {qhmk : Int32} {qhng : Nat → Int32} {qhnk : Int32} {qhsg : Nat → Int32} {qhsk : Int32} {qhtg : Nat → Int32} {qhtk qmd2 : Int32} {qmg : Nat → Int32} {qmk : Int32} {qpg : Nat → Int32} {qpk : Int32} {qrg : Nat → Int32} {qrk qtr2 : Int32} {qwg : Nat → Int32} {qwk : Int32} (hR : HRel G ndk nmg ndg qrk qrg qmk qmg qwk qwg qpk qhnk qhtk qhjk qhmk qhbk qhsk qhck) (hV : HV G qrg qmg qwg qpg qhng qhtg qhjg qhmg qhbg qhsg qhcg) (e1 : qmd2 = 0) (e2 : qtr2 = 0) : SG G qrk qmk qwk qpk qmd2 qtr2 qrg qmg qwg qpg := by
  obtain ⟨-, ⟨r1, -, r3, -, r5, -, r7, -, -⟩, -⟩ := hR
  obtain ⟨h1, h2, h3, h4, -⟩ := hV
  exact ⟨⟨r1, r3, r5, r7, e1, e2⟩, h1, h2, h3, h4⟩
theorem FIv.cg {F G : Nat → Int32} (e : ∀ i : Nat, i < 311 → G i = F i) (h : FIv F) : FIv G := by
  unfold FIv at h ⊢
  rw [e 6 (by first | decide | omega), e 7 (by first | decide | omega), e 8 (by first | decide | omega), e 9 (by first | decide | omega), e 10 (by first | decide | omega), e 11 (by first | decide | omega), e 13 (by first | decide | omega), e 14 (by first | decide | omega)]
  exact h
theorem RV.cg {F G : Nat → Int32} (e : ∀ i : Nat, i < 311 → G i = F i) (hB : FIv F) (h12 : IV (F 12) 0 8) (h : RV F) : RV G := RV_keep hB h12 h (by rw [e 6 (by first | decide | omega)]; exact Int.le_refl _) (by rw [e 7 (by first | decide | omega)]; exact Int.le_refl _) (fun i hi => e i (by omega))
theorem TO.cg {F G : Nat → Int32} {yhnf : Nat → Int32} {yhtn : Int32} {yhtf : Nat → Int32} {yhjn : Int32} {yhjf : Nat → Int32} {yhmn : Int32} {yhmf : Nat → Int32} {yhbn : Int32} {yhbf : Nat → Int32} {yhsn : Int32} {yhsf : Nat → Int32} {yhcn : Int32} {yhcf : Nat → Int32} (e : ∀ i : Nat, i < 311 → G i = F i) (hB : FIv F) (h : TO F yhnf yhtn yhtf yhjn yhjf yhmn yhmf yhbn yhbf yhsn yhsf yhcn yhcf) : TO G yhnf yhtn yhtf yhjn yhjf yhmn yhmf yhbn yhbf yhsn yhsf yhcn yhcf := by
  obtain ⟨⟨a1, a2, a3, a4, a5⟩, hb, hn, h1, h2, hm, hbf, h3, h4⟩ := h
  obtain ⟨⟨-, b6⟩, ⟨-, b7⟩, ⟨-, b8⟩, ⟨-, b9⟩, ⟨-, b10⟩, ⟨-, b11⟩, ⟨-, b13⟩, ⟨-, b14⟩⟩ := hB
  refine ⟨⟨?_, ?_, ?_, ?_, ?_⟩, ?_, fun j hj => ?_, TV_keep (cap := 4) h1 (e 7 (by first | decide | omega)) (by omega) (fun i _ hi => e i (by omega)), TV_keep (cap := 8) h2 (e 9 (by first | decide | omega)) (by omega) (fun i _ hi => e i (by omega)), fun k hk => ?_, fun q j hj => ?_, TV_keep (cap := 6) h3 (e 13 (by first | decide | omega)) (by omega) (fun i _ hi => e i (by omega)), TV_keep (cap := 6) h4 (e 14 (by first | decide | omega)) (by omega) (fun i _ hi => e i (by omega))⟩
  · rw [e 7 (by first | decide | omega)]; exact a1
  · rw [e 9 (by first | decide | omega)]; exact a2
  · rw [e 11 (by first | decide | omega)]; exact a3
  · rw [e 13 (by first | decide | omega)]; exact a4
  · rw [e 14 (by first | decide | omega)]; exact a5
  · rw [e 134 (by first | decide | omega)]; exact hb
  · rw [e j (by omega)]; exact hn j hj
  · rw [e 11 (by first | decide | omega)] at hk
    rw [e (114 + 3 * k) (by omega), e (114 + 3 * k + 2) (by omega), e (114 + 3 * k + 1) (by omega)]
    exact hm k hk
  · rw [e 134 (by first | decide | omega)] at q
    rw [e (134 + j) (by omega)]
    exact hbf q j hj
theorem SG_SR {F G S : Nat → Int32} {zrn zmn zwn zpn zmd ztr : Int32} {zrf zmf zwf zpf : Nat → Int32} (e : ∀ i : Nat, i < 311 → G i = F i) (hB : FIv F) (h12 : IV (F 12) 0 8) (h : SG F zrn zmn zwn zpn zmd ztr zrf zmf zwf zpf) (hS : StF F S) : SR G S zrn zmn zwn zpn zmd ztr zrf zmf zwf zpf := by
  obtain ⟨⟨a1, a2, a3, a4, a5, a6⟩, h1, h2, h3, h4⟩ := h
  obtain ⟨s1, s2, s3, s4, s5, s6⟩ := hS
  obtain ⟨⟨-, b6⟩, ⟨-, b7⟩, ⟨-, b8⟩, ⟨-, b9⟩, ⟨-, b10⟩, ⟨-, b11⟩, ⟨-, b13⟩, ⟨-, b14⟩⟩ := hB
  obtain ⟨-, b12⟩ := h12
  refine ⟨⟨?_, ?_, ?_, ?_, a5.trans s6.symm, a6.trans s5.symm⟩, fun k hk => ?_, fun k hk => ?_, fun k hk => ?_, fun k hk => ?_⟩
  · rw [e 6 (by first | decide | omega)]; exact a1
  · rw [e 8 (by first | decide | omega)]; exact a2
  · rw [e 10 (by first | decide | omega)]; exact a3
  · rw [e 12 (by first | decide | omega)]; exact a4
  · rw [e 6 (by first | decide | omega)] at hk
    rw [e (16 + 3 * k + 2) (by omega), (s1 k hk).1, (s1 k hk).2]
    exact ⟨h1 k 0 hk (by omega), h1 k 1 hk (by omega), h1 k 2 hk (by omega)⟩
  · rw [e 8 (by first | decide | omega)] at hk
    rw [e (44 + 3 * k) (by omega), e (44 + 3 * k + 2) (by omega), s2 k hk]
    exact ⟨h2 k 0 hk (by omega), h2 k 1 hk (by omega), h2 k 2 hk (by omega)⟩
  · rw [e 10 (by first | decide | omega)] at hk
    rw [e (96 + 3 * k) (by omega), e (96 + 3 * k + 2) (by omega), s3 k hk]
    exact ⟨h3 k 0 hk (by omega), h3 k 1 hk (by omega), h3 k 2 hk (by omega)⟩
  · rw [e 12 (by first | decide | omega)] at hk
    rw [e (126 + k) (by omega), s4 k hk]
    exact h4 k hk
theorem TxR_in {T : Nat → Int32} {n : Int32} : ∀ (k : Nat) (F : Nat → Int32) (a : Int32) (v : (Nat → Int32) × Int32), TxR T n k F a (.inr v) → v.1 15 ≠ 0 ∧ v.1 12 ≠ 0 ∧ v.1 11 ≠ 0 := by
  intro k
  induction k with
  | zero => intro F a v h; exact h.elim
  | succ k ih =>
    intro F a v h
    rw [TxR] at h
    rcases h.2 with ⟨e2, h1, h2⟩ | ⟨w, h1, h2⟩
    · cases h2
    · rcases h2 with ⟨-, h2⟩ | ⟨-, ⟨-, h2⟩ | ⟨h3, h2⟩⟩ | ⟨-, -, h2⟩
      · exact ih _ _ _ h2
      · cases h2
      · cases h2; exact h3
      · cases h2

set_option maxRecDepth 100000
set_option maxHeartbeats 4000000
def SAMEh (yhnf : Nat → Int32) (yhtn : Int32) (yhtf : Nat → Int32) (yhjn : Int32) (yhjf : Nat → Int32) (yhmn : Int32) (yhmf : Nat → Int32) (yhbn : Int32) (yhbf : Nat → Int32) (yhsn : Int32) (yhsf : Nat → Int32) (yhcn : Int32) (yhcf : Nat → Int32) (zrn zmn zwn zpn zmd ztr : Int32) (zrf zmf zwf zpf : Nat → Int32) (kac kim : Int32) (yhng : Nat → Int32) (yhtk : Int32) (yhtg : Nat → Int32) (yhjk : Int32) (yhjg : Nat → Int32) (yhmk : Int32) (yhmg : Nat → Int32) (yhbk : Int32) (yhbg : Nat → Int32) (yhsk : Int32) (yhsg : Nat → Int32) (yhck : Int32) (yhcg : Nat → Int32) (zrk zmk zwk zpk zmd2 ztr2 : Int32) (zrg zmg zwg zpg : Nat → Int32) (kac2 kim2 : Int32) : Prop := yhng = yhnf ∧ yhtk = yhtn ∧ yhtg = yhtf ∧ yhjk = yhjn ∧ yhjg = yhjf ∧ yhmk = yhmn ∧ yhmg = yhmf ∧ yhbk = yhbn ∧ yhbg = yhbf ∧ yhsk = yhsn ∧ yhsg = yhsf ∧ yhck = yhcn ∧ yhcg = yhcf ∧ zrk = zrn ∧ zmk = zmn ∧ zwk = zwn ∧ zpk = zpn ∧ zmd2 = zmd ∧ ztr2 = ztr ∧ zrg = zrf ∧ zmg = zmf ∧ zwg = zwf ∧ zpg = zpf ∧ kac2 = kac ∧ kim2 = kim
def HXS (n t : Int32) (tp : Nat → Int32) (yhnf : Nat → Int32) (yhtn : Int32) (yhtf : Nat → Int32) (yhjn : Int32) (yhjf : Nat → Int32) (yhmn : Int32) (yhmf : Nat → Int32) (yhbn : Int32) (yhbf : Nat → Int32) (yhsn : Int32) (yhsf : Nat → Int32) (yhcn : Int32) (yhcf : Nat → Int32) (zrn zmn zwn zpn zmd ztr : Int32) (zrf zmf zwf zpf : Nat → Int32) (kac kim : Int32) (t2 : Int32) (yhng : Nat → Int32) (yhtk : Int32) (yhtg : Nat → Int32) (yhjk : Int32) (yhjg : Nat → Int32) (yhmk : Int32) (yhmg : Nat → Int32) (yhbk : Int32) (yhbg : Nat → Int32) (yhsk : Int32) (yhsg : Nat → Int32) (yhck : Int32) (yhcg : Nat → Int32) (zrk zmk zwk zpk zmd2 ztr2 : Int32) (zrg zmg zwg zpg : Nat → Int32) (kac2 kim2 : Int32) : Prop := ∀ T : Nat → Int32, TpR tp T → (¬ (0 ≤ n.toInt ∧ n.toInt ≤ t.toInt) ∧ t2 = t ∧ SAMEh yhnf yhtn yhtf yhjn yhjf yhmn yhmf yhbn yhbf yhsn yhsf yhcn yhcf zrn zmn zwn zpn zmd ztr zrf zmf zwf zpf kac kim yhng yhtk yhtg yhjk yhjg yhmk yhmg yhbk yhbg yhsk yhsg yhck yhcg zrk zmk zwk zpk zmd2 ztr2 zrg zmg zwg zpg kac2 kim2) ∨ ((0 ≤ n.toInt ∧ n.toInt ≤ t.toInt) ∧ t2 = 0 ∧ ∀ F0 : Nat → Int32, (∀ i : Nat, i < 311 → F0 i = 0) → ∃ (k : Nat) (ρ : Rs ((Nat → Int32) × Int32)), TxR T n k F0 (rn T n 5 0) ρ ∧ ((∃ e : Int32 × Int32, ρ = .inl e ∧ SAMEh yhnf yhtn yhtf yhjn yhjf yhmn yhmf yhbn yhbf yhsn yhsf yhcn yhcf zrn zmn zwn zpn zmd ztr zrf zmf zwf zpf kac kim yhng yhtk yhtg yhjk yhjg yhmk yhmg yhbk yhbg yhsk yhsg yhck yhcg zrk zmk zwk zpk zmd2 ztr2 zrg zmg zwg zpg kac2 kim2) ∨ (∃ v : (Nat → Int32) × Int32, ρ = .inr v ∧ TO v.1 yhng yhtk yhtg yhjk yhjg yhmk yhmg yhbk yhbg yhsk yhsg yhck yhcg ∧ SG v.1 zrk zmk zwk zpk zmd2 ztr2 zrg zmg zwg zpg ∧ kac2 = 0 ∧ kim2 = 0 ∧ FIv v.1 ∧ IV (v.1 12) 0 8 ∧ RV v.1)))
theorem qc_houseS {p0 xtpd xfn xfp xen xkd xsta xpo xva : Int32} {xle : Int64} {xtk xta : Int32} {tpf : Nat → Int32} {nmf : Nat → Int64} {ndn : Int32} {ndf : Nat → Int32} {qmd qtr qrn : Int32} {qrf : Nat → Int32} {qmn : Int32} {qmf : Nat → Int32} {qwn : Int32} {qwf : Nat → Int32} {qpn : Int32} {qpf : Nat → Int32} {qhnn : Int32} {qhnf : Nat → Int32} {qhtn : Int32} {qhtf : Nat → Int32} {qhjn : Int32} {qhjf : Nat → Int32} {qhmn : Int32} {qhmf : Nat → Int32} {qhbn : Int32} {qhbf : Nat → Int32} {qhsn : Int32} {qhsf : Nat → Int32} {qhcn : Int32} {qhcf : Nat → Int32} {ymd ytr yrn : Int32} {yrf : Nat → Int32} {ymn : Int32} {ymf : Nat → Int32} {ywn : Int32} {ywf : Nat → Int32} {ypn : Int32} {ypf : Nat → Int32} {yhnn : Int32} {yhnf : Nat → Int32} {yhtn : Int32} {yhtf : Nat → Int32} {yhjn : Int32} {yhjf : Nat → Int32} {yhmn : Int32} {yhmf : Nat → Int32} {yhbn : Int32} {yhbf : Nat → Int32} {yhsn : Int32} {yhsf : Nat → Int32} {yhcn : Int32} {yhcf : Nat → Int32} {zmd ztr zrn : Int32} {zrf : Nat → Int32} {zmn : Int32} {zmf : Nat → Int32} {zwn : Int32} {zwf : Nat → Int32} {zpn : Int32} {zpf : Nat → Int32} {kac kim tr2 xfn2 xfp2 xkd2 xsta2 xpo2 xva2 : Int32} {xle2 : Int64} {xtk2 xta2 xtpd2 xen2 : Int32} {nmfg : Nat → Int64} {ndfg : Nat → Int32} {ndnk : Int32} {qrg qmg qwg qpg : Nat → Int32} {qrk qmk qwk qpk qmd2 qtr2 : Int32} {qhng qhtg qhjg qhmg qhbg qhsg qhcg : Nat → Int32} {qhnk qhtk qhjk qhmk qhbk qhsk qhck : Int32} {yrg ymg ywg ypg : Nat → Int32} {yrk ymk ywk ypk ymd2 ytr2 : Int32} {yhng yhtg yhjg yhmg yhbg yhsg yhcg : Nat → Int32} {yhnk yhtk yhjk yhmk yhbk yhsk yhck : Int32} {zrg zmg zwg zpg : Nat → Int32} {zrk zmk zwk zpk zmd2 ztr2 kac2 kim2 r : Int32} (ht : IV xtpd 0 900) (h : R_c_houseX p0 xtpd xfn xfp xen xkd xsta xpo xva xle xtk xta tpf nmf ndn ndf qmd qtr qrn qrf qmn qmf qwn qwf qpn qpf qhnn qhnf qhtn qhtf qhjn qhjf qhmn qhmf qhbn qhbf qhsn qhsf qhcn qhcf ymd ytr yrn yrf ymn ymf ywn ywf ypn ypf yhnn yhnf yhtn yhtf yhjn yhjf yhmn yhmf yhbn yhbf yhsn yhsf yhcn yhcf zmd ztr zrn zrf zmn zmf zwn zwf zpn zpf kac kim tr2 xfn2 xfp2 xkd2 xsta2 xpo2 xva2 xle2 xtk2 xta2 xtpd2 xen2 nmfg ndfg ndnk qrg qmg qwg qpg qrk qmk qwk qpk qmd2 qtr2 qhng qhtg qhjg qhmg qhbg qhsg qhcg qhnk qhtk qhjk qhmk qhbk qhsk qhck yrg ymg ywg ypg yrk ymk ywk ypk ymd2 ytr2 yhng yhtg yhjg yhmg yhbg yhsg yhcg yhnk yhtk yhjk yhmk yhbk yhsk yhck zrg zmg zwg zpg zrk zmk zwk zpk zmd2 ztr2 kac2 kim2 r) : HXS p0 xtpd tpf yhnf yhtn yhtf yhjn yhjf yhmn yhmf yhbn yhbf yhsn yhsf yhcn yhcf zrn zmn zwn zpn zmd ztr zrf zmf zwf zpf kac kim xtpd2 yhng yhtk yhtg yhjk yhjg yhmk yhmg yhbk yhbg yhsk yhsg yhck yhcg zrk zmk zwk zpk zmd2 ztr2 zrg zmg zwg zpg kac2 kim2 := by
  intro T hT
  unfold R_c_houseX at h
  have z0 : (0 : Int32).toInt = 0 := by decide
  rcases h with ⟨q, h⟩ | ⟨q, h⟩
  · have q1 := Int32.lt_iff_toInt_lt.mp q
    rw [z0] at q1
    refine Exists.elim h ?_
    clear h
    intro tr2_4 h
    refine Exists.elim h ?_
    clear h
    intro r_5 h
    obtain ⟨g0_c_refuseX, h⟩ := h
    exact Or.inl ⟨fun w => by omega, h.2.2.2.2.2.2.2.2.2.2.1, ⟨h.2.2.2.2.2.2.2.2.2.2.2.2.2.2.2.2.2.2.2.2.2.2.2.2.2.2.2.2.2.2.2.2.2.2.2.2.2.2.2.2.2.2.2.2.2.2.2.2.2.1, h.2.2.2.2.2.2.2.2.2.2.2.2.2.2.2.2.2.2.2.2.2.2.2.2.2.2.2.2.2.2.2.2.2.2.2.2.2.2.2.2.2.2.2.2.2.2.2.2.2.2.2.2.2.2.2.2.2.1, h.2.2.2.2.2.2.2.2.2.2.2.2.2.2.2.2.2.2.2.2.2.2.2.2.2.2.2.2.2.2.2.2.2.2.2.2.2.2.2.2.2.2.2.2.2.2.2.2.2.2.1, h.2.2.2.2.2.2.2.2.2.2.2.2.2.2.2.2.2.2.2.2.2.2.2.2.2.2.2.2.2.2.2.2.2.2.2.2.2.2.2.2.2.2.2.2.2.2.2.2.2.2.2.2.2.2.2.2.2.2.1, h.2.2.2.2.2.2.2.2.2.2.2.2.2.2.2.2.2.2.2.2.2.2.2.2.2.2.2.2.2.2.2.2.2.2.2.2.2.2.2.2.2.2.2.2.2.2.2.2.2.2.2.1, h.2.2.2.2.2.2.2.2.2.2.2.2.2.2.2.2.2.2.2.2.2.2.2.2.2.2.2.2.2.2.2.2.2.2.2.2.2.2.2.2.2.2.2.2.2.2.2.2.2.2.2.2.2.2.2.2.2.2.2.1, h.2.2.2.2.2.2.2.2.2.2.2.2.2.2.2.2.2.2.2.2.2.2.2.2.2.2.2.2.2.2.2.2.2.2.2.2.2.2.2.2.2.2.2.2.2.2.2.2.2.2.2.2.1, h.2.2.2.2.2.2.2.2.2.2.2.2.2.2.2.2.2.2.2.2.2.2.2.2.2.2.2.2.2.2.2.2.2.2.2.2.2.2.2.2.2.2.2.2.2.2.2.2.2.2.2.2.2.2.2.2.2.2.2.2.1, h.2.2.2.2.2.2.2.2.2.2.2.2.2.2.2.2.2.2.2.2.2.2.2.2.2.2.2.2.2.2.2.2.2.2.2.2.2.2.2.2.2.2.2.2.2.2.2.2.2.2.2.2.2.1, h.2.2.2.2.2.2.2.2.2.2.2.2.2.2.2.2.2.2.2.2.2.2.2.2.2.2.2.2.2.2.2.2.2.2.2.2.2.2.2.2.2.2.2.2.2.2.2.2.2.2.2.2.2.2.2.2.2.2.2.2.2.1, h.2.2.2.2.2.2.2.2.2.2.2.2.2.2.2.2.2.2.2.2.2.2.2.2.2.2.2.2.2.2.2.2.2.2.2.2.2.2.2.2.2.2.2.2.2.2.2.2.2.2.2.2.2.2.1, h.2.2.2.2.2.2.2.2.2.2.2.2.2.2.2.2.2.2.2.2.2.2.2.2.2.2.2.2.2.2.2.2.2.2.2.2.2.2.2.2.2.2.2.2.2.2.2.2.2.2.2.2.2.2.2.2.2.2.2.2.2.2.1, h.2.2.2.2.2.2.2.2.2.2.2.2.2.2.2.2.2.2.2.2.2.2.2.2.2.2.2.2.2.2.2.2.2.2.2.2.2.2.2.2.2.2.2.2.2.2.2.2.2.2.2.2.2.2.2.1, h.2.2.2.2.2.2.2.2.2.2.2.2.2.2.2.2.2.2.2.2.2.2.2.2.2.2.2.2.2.2.2.2.2.2.2.2.2.2.2.2.2.2.2.2.2.2.2.2.2.2.2.2.2.2.2.2.2.2.2.2.2.2.2.2.2.2.2.1, h.2.2.2.2.2.2.2.2.2.2.2.2.2.2.2.2.2.2.2.2.2.2.2.2.2.2.2.2.2.2.2.2.2.2.2.2.2.2.2.2.2.2.2.2.2.2.2.2.2.2.2.2.2.2.2.2.2.2.2.2.2.2.2.2.2.2.2.2.1, h.2.2.2.2.2.2.2.2.2.2.2.2.2.2.2.2.2.2.2.2.2.2.2.2.2.2.2.2.2.2.2.2.2.2.2.2.2.2.2.2.2.2.2.2.2.2.2.2.2.2.2.2.2.2.2.2.2.2.2.2.2.2.2.2.2.2.2.2.2.1, h.2.2.2.2.2.2.2.2.2.2.2.2.2.2.2.2.2.2.2.2.2.2.2.2.2.2.2.2.2.2.2.2.2.2.2.2.2.2.2.2.2.2.2.2.2.2.2.2.2.2.2.2.2.2.2.2.2.2.2.2.2.2.2.2.2.2.2.2.2.2.1, h.2.2.2.2.2.2.2.2.2.2.2.2.2.2.2.2.2.2.2.2.2.2.2.2.2.2.2.2.2.2.2.2.2.2.2.2.2.2.2.2.2.2.2.2.2.2.2.2.2.2.2.2.2.2.2.2.2.2.2.2.2.2.2.2.2.2.2.2.2.2.2.1, h.2.2.2.2.2.2.2.2.2.2.2.2.2.2.2.2.2.2.2.2.2.2.2.2.2.2.2.2.2.2.2.2.2.2.2.2.2.2.2.2.2.2.2.2.2.2.2.2.2.2.2.2.2.2.2.2.2.2.2.2.2.2.2.2.2.2.2.2.2.2.2.2.1, h.2.2.2.2.2.2.2.2.2.2.2.2.2.2.2.2.2.2.2.2.2.2.2.2.2.2.2.2.2.2.2.2.2.2.2.2.2.2.2.2.2.2.2.2.2.2.2.2.2.2.2.2.2.2.2.2.2.2.2.2.2.2.2.1, h.2.2.2.2.2.2.2.2.2.2.2.2.2.2.2.2.2.2.2.2.2.2.2.2.2.2.2.2.2.2.2.2.2.2.2.2.2.2.2.2.2.2.2.2.2.2.2.2.2.2.2.2.2.2.2.2.2.2.2.2.2.2.2.2.1, h.2.2.2.2.2.2.2.2.2.2.2.2.2.2.2.2.2.2.2.2.2.2.2.2.2.2.2.2.2.2.2.2.2.2.2.2.2.2.2.2.2.2.2.2.2.2.2.2.2.2.2.2.2.2.2.2.2.2.2.2.2.2.2.2.2.1, h.2.2.2.2.2.2.2.2.2.2.2.2.2.2.2.2.2.2.2.2.2.2.2.2.2.2.2.2.2.2.2.2.2.2.2.2.2.2.2.2.2.2.2.2.2.2.2.2.2.2.2.2.2.2.2.2.2.2.2.2.2.2.2.2.2.2.1, h.2.2.2.2.2.2.2.2.2.2.2.2.2.2.2.2.2.2.2.2.2.2.2.2.2.2.2.2.2.2.2.2.2.2.2.2.2.2.2.2.2.2.2.2.2.2.2.2.2.2.2.2.2.2.2.2.2.2.2.2.2.2.2.2.2.2.2.2.2.2.2.2.2.1, h.2.2.2.2.2.2.2.2.2.2.2.2.2.2.2.2.2.2.2.2.2.2.2.2.2.2.2.2.2.2.2.2.2.2.2.2.2.2.2.2.2.2.2.2.2.2.2.2.2.2.2.2.2.2.2.2.2.2.2.2.2.2.2.2.2.2.2.2.2.2.2.2.2.2.1⟩⟩
  have q1 : 0 ≤ p0.toInt := Int.not_lt.mp (fun w => q (Int32.lt_iff_toInt_lt.mpr (by rw [z0]; exact w)))
  rcases h with ⟨q2, h⟩ | ⟨q2, h⟩
  · have q3 := Int32.le_iff_toInt_le.mp q2
    have hn : IV p0 0 900 := ⟨q1, by have := ht.2; omega⟩
    refine exL36 h ?_
    clear h
    intro xfn2_12 xfp2_13 xkd2_14 xsta2_15 xpo2_16 xva2_17 xle2_18 xtk2_19 xta2_20 nmfg_21 ndfg_22 ndnk_23 qrg_24 qmg_25 qwg_26 qpg_27 qrk_28 qmk_29 qwk_30 qpk_31 qmd2_32 qtr2_33 qhng_34 qhtg_35 qhjg_36 qhmg_37 qhbg_38 qhsg_39 qhcg_40 qhnk_41 qhtk_42 qhjk_43 qhmk_44 qhbk_45 qhsk_46 qhck_47 h
    obtain ⟨g0_x_readX, h⟩ := h
    have hz := kp_x_readX g0_x_readX
    rcases h with ⟨q4, h⟩ | ⟨q4, h⟩
    · skip
      refine exL24 h ?_
      clear h
      intro xrg_54 xmg_55 xwg_56 xpg_57 xrk_58 xmk_59 xwk_60 xpk_61 xmd2_62 xtr2_63 xhng_64 xhtg_65 xhjg_66 xhmg_67 xhbg_68 xhsg_69 xhcg_70 xhnk_71 xhtk_72 xhjk_73 xhmk_74 xhbk_75 xhsk_76 xhck_77 h
      obtain ⟨g0_h_copyFromX, h⟩ := h
      refine exL10 h ?_
      clear h
      intro xrg_80 xmg_81 xwg_82 xpg_83 xrk_84 xmk_85 xwk_86 xpk_87 xmd2_88 xtr2_89 h
      obtain ⟨g1_s_copyFromX, h⟩ := h
      refine Exists.elim h ?_
      clear h
      intro kac2_92 h
      refine Exists.elim h ?_
      clear h
      intro kim2_93 h
      obtain ⟨g2_g_forgetX, h⟩ := h
      refine Exists.elim h ?_
      clear h
      intro tr2_98 h
      refine Exists.elim h ?_
      clear h
      intro r_99 h
      obtain ⟨g3_c_tellX, h⟩ := h
      refine Or.inr ⟨⟨q1, q3⟩, h.2.2.2.2.2.2.2.2.2.2.1, fun F0 hF => ?_⟩
      obtain ⟨k, ρ, hk, hx⟩ := qx_read hn hT hF g0_x_readX
      refine ⟨k, ρ, hk, ?_⟩
      cases ρ with
      | inl e => exact absurd (hx.1.symm.trans q4) (NZ_text _ _ _ _ hk)
      | inr v =>
        obtain ⟨-, -, hR, hV, hRV⟩ := hx
        have h15 := (TxR_in _ _ _ _ hk).1
        have hB := hR.2.2.1
        have h12 := hR.2.2.2.1
        have hTO := TO.copy hB (HG_TO hR hV h15) g0_h_copyFromX
        have hSG := SG.copy hB h12 (SG.copy hB h12 (HG_SG hR hV hz.1 hz.2) (hc_all g0_h_copyFromX).1) g1_s_copyFromX
        refine Or.inr ⟨v, rfl, ?_, ?_, (h.2.2.2.2.2.2.2.2.2.2.2.2.2.2.2.2.2.2.2.2.2.2.2.2.2.2.2.2.2.2.2.2.2.2.2.2.2.2.2.2.2.2.2.2.2.2.2.2.2.2.2.2.2.2.2.2.2.2.2.2.2.2.2.2.2.2.2.2.2.2.2.2.2.1).trans g2_g_forgetX.1, (h.2.2.2.2.2.2.2.2.2.2.2.2.2.2.2.2.2.2.2.2.2.2.2.2.2.2.2.2.2.2.2.2.2.2.2.2.2.2.2.2.2.2.2.2.2.2.2.2.2.2.2.2.2.2.2.2.2.2.2.2.2.2.2.2.2.2.2.2.2.2.2.2.2.2.1).trans g2_g_forgetX.2, hB, h12, hRV⟩
        · rw [h.2.2.2.2.2.2.2.2.2.2.2.2.2.2.2.2.2.2.2.2.2.2.2.2.2.2.2.2.2.2.2.2.2.2.2.2.2.2.2.2.2.2.2.2.2.2.2.2.2.1, h.2.2.2.2.2.2.2.2.2.2.2.2.2.2.2.2.2.2.2.2.2.2.2.2.2.2.2.2.2.2.2.2.2.2.2.2.2.2.2.2.2.2.2.2.2.2.2.2.2.2.2.2.2.2.2.2.2.1, h.2.2.2.2.2.2.2.2.2.2.2.2.2.2.2.2.2.2.2.2.2.2.2.2.2.2.2.2.2.2.2.2.2.2.2.2.2.2.2.2.2.2.2.2.2.2.2.2.2.2.1, h.2.2.2.2.2.2.2.2.2.2.2.2.2.2.2.2.2.2.2.2.2.2.2.2.2.2.2.2.2.2.2.2.2.2.2.2.2.2.2.2.2.2.2.2.2.2.2.2.2.2.2.2.2.2.2.2.2.2.1, h.2.2.2.2.2.2.2.2.2.2.2.2.2.2.2.2.2.2.2.2.2.2.2.2.2.2.2.2.2.2.2.2.2.2.2.2.2.2.2.2.2.2.2.2.2.2.2.2.2.2.2.1, h.2.2.2.2.2.2.2.2.2.2.2.2.2.2.2.2.2.2.2.2.2.2.2.2.2.2.2.2.2.2.2.2.2.2.2.2.2.2.2.2.2.2.2.2.2.2.2.2.2.2.2.2.2.2.2.2.2.2.2.1, h.2.2.2.2.2.2.2.2.2.2.2.2.2.2.2.2.2.2.2.2.2.2.2.2.2.2.2.2.2.2.2.2.2.2.2.2.2.2.2.2.2.2.2.2.2.2.2.2.2.2.2.2.1, h.2.2.2.2.2.2.2.2.2.2.2.2.2.2.2.2.2.2.2.2.2.2.2.2.2.2.2.2.2.2.2.2.2.2.2.2.2.2.2.2.2.2.2.2.2.2.2.2.2.2.2.2.2.2.2.2.2.2.2.2.1, h.2.2.2.2.2.2.2.2.2.2.2.2.2.2.2.2.2.2.2.2.2.2.2.2.2.2.2.2.2.2.2.2.2.2.2.2.2.2.2.2.2.2.2.2.2.2.2.2.2.2.2.2.2.1, h.2.2.2.2.2.2.2.2.2.2.2.2.2.2.2.2.2.2.2.2.2.2.2.2.2.2.2.2.2.2.2.2.2.2.2.2.2.2.2.2.2.2.2.2.2.2.2.2.2.2.2.2.2.2.2.2.2.2.2.2.2.1, h.2.2.2.2.2.2.2.2.2.2.2.2.2.2.2.2.2.2.2.2.2.2.2.2.2.2.2.2.2.2.2.2.2.2.2.2.2.2.2.2.2.2.2.2.2.2.2.2.2.2.2.2.2.2.1, h.2.2.2.2.2.2.2.2.2.2.2.2.2.2.2.2.2.2.2.2.2.2.2.2.2.2.2.2.2.2.2.2.2.2.2.2.2.2.2.2.2.2.2.2.2.2.2.2.2.2.2.2.2.2.2.2.2.2.2.2.2.2.1, h.2.2.2.2.2.2.2.2.2.2.2.2.2.2.2.2.2.2.2.2.2.2.2.2.2.2.2.2.2.2.2.2.2.2.2.2.2.2.2.2.2.2.2.2.2.2.2.2.2.2.2.2.2.2.2.1]; exact hTO
        · rw [h.2.2.2.2.2.2.2.2.2.2.2.2.2.2.2.2.2.2.2.2.2.2.2.2.2.2.2.2.2.2.2.2.2.2.2.2.2.2.2.2.2.2.2.2.2.2.2.2.2.2.2.2.2.2.2.2.2.2.2.2.2.2.2.2.2.2.2.1, h.2.2.2.2.2.2.2.2.2.2.2.2.2.2.2.2.2.2.2.2.2.2.2.2.2.2.2.2.2.2.2.2.2.2.2.2.2.2.2.2.2.2.2.2.2.2.2.2.2.2.2.2.2.2.2.2.2.2.2.2.2.2.2.2.2.2.2.2.1, h.2.2.2.2.2.2.2.2.2.2.2.2.2.2.2.2.2.2.2.2.2.2.2.2.2.2.2.2.2.2.2.2.2.2.2.2.2.2.2.2.2.2.2.2.2.2.2.2.2.2.2.2.2.2.2.2.2.2.2.2.2.2.2.2.2.2.2.2.2.1, h.2.2.2.2.2.2.2.2.2.2.2.2.2.2.2.2.2.2.2.2.2.2.2.2.2.2.2.2.2.2.2.2.2.2.2.2.2.2.2.2.2.2.2.2.2.2.2.2.2.2.2.2.2.2.2.2.2.2.2.2.2.2.2.2.2.2.2.2.2.2.1, h.2.2.2.2.2.2.2.2.2.2.2.2.2.2.2.2.2.2.2.2.2.2.2.2.2.2.2.2.2.2.2.2.2.2.2.2.2.2.2.2.2.2.2.2.2.2.2.2.2.2.2.2.2.2.2.2.2.2.2.2.2.2.2.2.2.2.2.2.2.2.2.1, h.2.2.2.2.2.2.2.2.2.2.2.2.2.2.2.2.2.2.2.2.2.2.2.2.2.2.2.2.2.2.2.2.2.2.2.2.2.2.2.2.2.2.2.2.2.2.2.2.2.2.2.2.2.2.2.2.2.2.2.2.2.2.2.2.2.2.2.2.2.2.2.2.1, h.2.2.2.2.2.2.2.2.2.2.2.2.2.2.2.2.2.2.2.2.2.2.2.2.2.2.2.2.2.2.2.2.2.2.2.2.2.2.2.2.2.2.2.2.2.2.2.2.2.2.2.2.2.2.2.2.2.2.2.2.2.2.2.1, h.2.2.2.2.2.2.2.2.2.2.2.2.2.2.2.2.2.2.2.2.2.2.2.2.2.2.2.2.2.2.2.2.2.2.2.2.2.2.2.2.2.2.2.2.2.2.2.2.2.2.2.2.2.2.2.2.2.2.2.2.2.2.2.2.1, h.2.2.2.2.2.2.2.2.2.2.2.2.2.2.2.2.2.2.2.2.2.2.2.2.2.2.2.2.2.2.2.2.2.2.2.2.2.2.2.2.2.2.2.2.2.2.2.2.2.2.2.2.2.2.2.2.2.2.2.2.2.2.2.2.2.1, h.2.2.2.2.2.2.2.2.2.2.2.2.2.2.2.2.2.2.2.2.2.2.2.2.2.2.2.2.2.2.2.2.2.2.2.2.2.2.2.2.2.2.2.2.2.2.2.2.2.2.2.2.2.2.2.2.2.2.2.2.2.2.2.2.2.2.1]; exact hSG
    · skip
      refine Exists.elim h ?_
      clear h
      intro tr2_101 h
      refine Exists.elim h ?_
      clear h
      intro r_102 h
      obtain ⟨g0_c_refuseX, h⟩ := h
      refine Or.inr ⟨⟨q1, q3⟩, h.2.2.2.2.2.2.2.2.2.2.1, fun F0 hF => ?_⟩
      obtain ⟨k, ρ, hk, hx⟩ := qx_read hn hT hF g0_x_readX
      refine ⟨k, ρ, hk, ?_⟩
      cases ρ with
      | inl e => exact Or.inl ⟨e, rfl, ⟨h.2.2.2.2.2.2.2.2.2.2.2.2.2.2.2.2.2.2.2.2.2.2.2.2.2.2.2.2.2.2.2.2.2.2.2.2.2.2.2.2.2.2.2.2.2.2.2.2.2.1, h.2.2.2.2.2.2.2.2.2.2.2.2.2.2.2.2.2.2.2.2.2.2.2.2.2.2.2.2.2.2.2.2.2.2.2.2.2.2.2.2.2.2.2.2.2.2.2.2.2.2.2.2.2.2.2.2.2.1, h.2.2.2.2.2.2.2.2.2.2.2.2.2.2.2.2.2.2.2.2.2.2.2.2.2.2.2.2.2.2.2.2.2.2.2.2.2.2.2.2.2.2.2.2.2.2.2.2.2.2.1, h.2.2.2.2.2.2.2.2.2.2.2.2.2.2.2.2.2.2.2.2.2.2.2.2.2.2.2.2.2.2.2.2.2.2.2.2.2.2.2.2.2.2.2.2.2.2.2.2.2.2.2.2.2.2.2.2.2.2.1, h.2.2.2.2.2.2.2.2.2.2.2.2.2.2.2.2.2.2.2.2.2.2.2.2.2.2.2.2.2.2.2.2.2.2.2.2.2.2.2.2.2.2.2.2.2.2.2.2.2.2.2.1, h.2.2.2.2.2.2.2.2.2.2.2.2.2.2.2.2.2.2.2.2.2.2.2.2.2.2.2.2.2.2.2.2.2.2.2.2.2.2.2.2.2.2.2.2.2.2.2.2.2.2.2.2.2.2.2.2.2.2.2.1, h.2.2.2.2.2.2.2.2.2.2.2.2.2.2.2.2.2.2.2.2.2.2.2.2.2.2.2.2.2.2.2.2.2.2.2.2.2.2.2.2.2.2.2.2.2.2.2.2.2.2.2.2.1, h.2.2.2.2.2.2.2.2.2.2.2.2.2.2.2.2.2.2.2.2.2.2.2.2.2.2.2.2.2.2.2.2.2.2.2.2.2.2.2.2.2.2.2.2.2.2.2.2.2.2.2.2.2.2.2.2.2.2.2.2.1, h.2.2.2.2.2.2.2.2.2.2.2.2.2.2.2.2.2.2.2.2.2.2.2.2.2.2.2.2.2.2.2.2.2.2.2.2.2.2.2.2.2.2.2.2.2.2.2.2.2.2.2.2.2.1, h.2.2.2.2.2.2.2.2.2.2.2.2.2.2.2.2.2.2.2.2.2.2.2.2.2.2.2.2.2.2.2.2.2.2.2.2.2.2.2.2.2.2.2.2.2.2.2.2.2.2.2.2.2.2.2.2.2.2.2.2.2.1, h.2.2.2.2.2.2.2.2.2.2.2.2.2.2.2.2.2.2.2.2.2.2.2.2.2.2.2.2.2.2.2.2.2.2.2.2.2.2.2.2.2.2.2.2.2.2.2.2.2.2.2.2.2.2.1, h.2.2.2.2.2.2.2.2.2.2.2.2.2.2.2.2.2.2.2.2.2.2.2.2.2.2.2.2.2.2.2.2.2.2.2.2.2.2.2.2.2.2.2.2.2.2.2.2.2.2.2.2.2.2.2.2.2.2.2.2.2.2.1, h.2.2.2.2.2.2.2.2.2.2.2.2.2.2.2.2.2.2.2.2.2.2.2.2.2.2.2.2.2.2.2.2.2.2.2.2.2.2.2.2.2.2.2.2.2.2.2.2.2.2.2.2.2.2.2.1, h.2.2.2.2.2.2.2.2.2.2.2.2.2.2.2.2.2.2.2.2.2.2.2.2.2.2.2.2.2.2.2.2.2.2.2.2.2.2.2.2.2.2.2.2.2.2.2.2.2.2.2.2.2.2.2.2.2.2.2.2.2.2.2.2.2.2.2.1, h.2.2.2.2.2.2.2.2.2.2.2.2.2.2.2.2.2.2.2.2.2.2.2.2.2.2.2.2.2.2.2.2.2.2.2.2.2.2.2.2.2.2.2.2.2.2.2.2.2.2.2.2.2.2.2.2.2.2.2.2.2.2.2.2.2.2.2.2.1, h.2.2.2.2.2.2.2.2.2.2.2.2.2.2.2.2.2.2.2.2.2.2.2.2.2.2.2.2.2.2.2.2.2.2.2.2.2.2.2.2.2.2.2.2.2.2.2.2.2.2.2.2.2.2.2.2.2.2.2.2.2.2.2.2.2.2.2.2.2.1, h.2.2.2.2.2.2.2.2.2.2.2.2.2.2.2.2.2.2.2.2.2.2.2.2.2.2.2.2.2.2.2.2.2.2.2.2.2.2.2.2.2.2.2.2.2.2.2.2.2.2.2.2.2.2.2.2.2.2.2.2.2.2.2.2.2.2.2.2.2.2.1, h.2.2.2.2.2.2.2.2.2.2.2.2.2.2.2.2.2.2.2.2.2.2.2.2.2.2.2.2.2.2.2.2.2.2.2.2.2.2.2.2.2.2.2.2.2.2.2.2.2.2.2.2.2.2.2.2.2.2.2.2.2.2.2.2.2.2.2.2.2.2.2.1, h.2.2.2.2.2.2.2.2.2.2.2.2.2.2.2.2.2.2.2.2.2.2.2.2.2.2.2.2.2.2.2.2.2.2.2.2.2.2.2.2.2.2.2.2.2.2.2.2.2.2.2.2.2.2.2.2.2.2.2.2.2.2.2.2.2.2.2.2.2.2.2.2.1, h.2.2.2.2.2.2.2.2.2.2.2.2.2.2.2.2.2.2.2.2.2.2.2.2.2.2.2.2.2.2.2.2.2.2.2.2.2.2.2.2.2.2.2.2.2.2.2.2.2.2.2.2.2.2.2.2.2.2.2.2.2.2.2.1, h.2.2.2.2.2.2.2.2.2.2.2.2.2.2.2.2.2.2.2.2.2.2.2.2.2.2.2.2.2.2.2.2.2.2.2.2.2.2.2.2.2.2.2.2.2.2.2.2.2.2.2.2.2.2.2.2.2.2.2.2.2.2.2.2.1, h.2.2.2.2.2.2.2.2.2.2.2.2.2.2.2.2.2.2.2.2.2.2.2.2.2.2.2.2.2.2.2.2.2.2.2.2.2.2.2.2.2.2.2.2.2.2.2.2.2.2.2.2.2.2.2.2.2.2.2.2.2.2.2.2.2.1, h.2.2.2.2.2.2.2.2.2.2.2.2.2.2.2.2.2.2.2.2.2.2.2.2.2.2.2.2.2.2.2.2.2.2.2.2.2.2.2.2.2.2.2.2.2.2.2.2.2.2.2.2.2.2.2.2.2.2.2.2.2.2.2.2.2.2.1, h.2.2.2.2.2.2.2.2.2.2.2.2.2.2.2.2.2.2.2.2.2.2.2.2.2.2.2.2.2.2.2.2.2.2.2.2.2.2.2.2.2.2.2.2.2.2.2.2.2.2.2.2.2.2.2.2.2.2.2.2.2.2.2.2.2.2.2.2.2.2.2.2.2.1, h.2.2.2.2.2.2.2.2.2.2.2.2.2.2.2.2.2.2.2.2.2.2.2.2.2.2.2.2.2.2.2.2.2.2.2.2.2.2.2.2.2.2.2.2.2.2.2.2.2.2.2.2.2.2.2.2.2.2.2.2.2.2.2.2.2.2.2.2.2.2.2.2.2.2.1⟩⟩
      | inr v => exact absurd hx.1 q4
  · have q3 : ¬ p0.toInt ≤ xtpd.toInt := fun w => q2 (Int32.le_iff_toInt_le.mpr w)
    refine Exists.elim h ?_
    clear h
    intro tr2_106 h
    refine Exists.elim h ?_
    clear h
    intro r_107 h
    obtain ⟨g0_c_refuseX, h⟩ := h
    exact Or.inl ⟨fun w => q3 w.2, h.2.2.2.2.2.2.2.2.2.2.1, ⟨h.2.2.2.2.2.2.2.2.2.2.2.2.2.2.2.2.2.2.2.2.2.2.2.2.2.2.2.2.2.2.2.2.2.2.2.2.2.2.2.2.2.2.2.2.2.2.2.2.2.1, h.2.2.2.2.2.2.2.2.2.2.2.2.2.2.2.2.2.2.2.2.2.2.2.2.2.2.2.2.2.2.2.2.2.2.2.2.2.2.2.2.2.2.2.2.2.2.2.2.2.2.2.2.2.2.2.2.2.1, h.2.2.2.2.2.2.2.2.2.2.2.2.2.2.2.2.2.2.2.2.2.2.2.2.2.2.2.2.2.2.2.2.2.2.2.2.2.2.2.2.2.2.2.2.2.2.2.2.2.2.1, h.2.2.2.2.2.2.2.2.2.2.2.2.2.2.2.2.2.2.2.2.2.2.2.2.2.2.2.2.2.2.2.2.2.2.2.2.2.2.2.2.2.2.2.2.2.2.2.2.2.2.2.2.2.2.2.2.2.2.1, h.2.2.2.2.2.2.2.2.2.2.2.2.2.2.2.2.2.2.2.2.2.2.2.2.2.2.2.2.2.2.2.2.2.2.2.2.2.2.2.2.2.2.2.2.2.2.2.2.2.2.2.1, h.2.2.2.2.2.2.2.2.2.2.2.2.2.2.2.2.2.2.2.2.2.2.2.2.2.2.2.2.2.2.2.2.2.2.2.2.2.2.2.2.2.2.2.2.2.2.2.2.2.2.2.2.2.2.2.2.2.2.2.1, h.2.2.2.2.2.2.2.2.2.2.2.2.2.2.2.2.2.2.2.2.2.2.2.2.2.2.2.2.2.2.2.2.2.2.2.2.2.2.2.2.2.2.2.2.2.2.2.2.2.2.2.2.1, h.2.2.2.2.2.2.2.2.2.2.2.2.2.2.2.2.2.2.2.2.2.2.2.2.2.2.2.2.2.2.2.2.2.2.2.2.2.2.2.2.2.2.2.2.2.2.2.2.2.2.2.2.2.2.2.2.2.2.2.2.1, h.2.2.2.2.2.2.2.2.2.2.2.2.2.2.2.2.2.2.2.2.2.2.2.2.2.2.2.2.2.2.2.2.2.2.2.2.2.2.2.2.2.2.2.2.2.2.2.2.2.2.2.2.2.1, h.2.2.2.2.2.2.2.2.2.2.2.2.2.2.2.2.2.2.2.2.2.2.2.2.2.2.2.2.2.2.2.2.2.2.2.2.2.2.2.2.2.2.2.2.2.2.2.2.2.2.2.2.2.2.2.2.2.2.2.2.2.1, h.2.2.2.2.2.2.2.2.2.2.2.2.2.2.2.2.2.2.2.2.2.2.2.2.2.2.2.2.2.2.2.2.2.2.2.2.2.2.2.2.2.2.2.2.2.2.2.2.2.2.2.2.2.2.1, h.2.2.2.2.2.2.2.2.2.2.2.2.2.2.2.2.2.2.2.2.2.2.2.2.2.2.2.2.2.2.2.2.2.2.2.2.2.2.2.2.2.2.2.2.2.2.2.2.2.2.2.2.2.2.2.2.2.2.2.2.2.2.1, h.2.2.2.2.2.2.2.2.2.2.2.2.2.2.2.2.2.2.2.2.2.2.2.2.2.2.2.2.2.2.2.2.2.2.2.2.2.2.2.2.2.2.2.2.2.2.2.2.2.2.2.2.2.2.2.1, h.2.2.2.2.2.2.2.2.2.2.2.2.2.2.2.2.2.2.2.2.2.2.2.2.2.2.2.2.2.2.2.2.2.2.2.2.2.2.2.2.2.2.2.2.2.2.2.2.2.2.2.2.2.2.2.2.2.2.2.2.2.2.2.2.2.2.2.1, h.2.2.2.2.2.2.2.2.2.2.2.2.2.2.2.2.2.2.2.2.2.2.2.2.2.2.2.2.2.2.2.2.2.2.2.2.2.2.2.2.2.2.2.2.2.2.2.2.2.2.2.2.2.2.2.2.2.2.2.2.2.2.2.2.2.2.2.2.1, h.2.2.2.2.2.2.2.2.2.2.2.2.2.2.2.2.2.2.2.2.2.2.2.2.2.2.2.2.2.2.2.2.2.2.2.2.2.2.2.2.2.2.2.2.2.2.2.2.2.2.2.2.2.2.2.2.2.2.2.2.2.2.2.2.2.2.2.2.2.1, h.2.2.2.2.2.2.2.2.2.2.2.2.2.2.2.2.2.2.2.2.2.2.2.2.2.2.2.2.2.2.2.2.2.2.2.2.2.2.2.2.2.2.2.2.2.2.2.2.2.2.2.2.2.2.2.2.2.2.2.2.2.2.2.2.2.2.2.2.2.2.1, h.2.2.2.2.2.2.2.2.2.2.2.2.2.2.2.2.2.2.2.2.2.2.2.2.2.2.2.2.2.2.2.2.2.2.2.2.2.2.2.2.2.2.2.2.2.2.2.2.2.2.2.2.2.2.2.2.2.2.2.2.2.2.2.2.2.2.2.2.2.2.2.1, h.2.2.2.2.2.2.2.2.2.2.2.2.2.2.2.2.2.2.2.2.2.2.2.2.2.2.2.2.2.2.2.2.2.2.2.2.2.2.2.2.2.2.2.2.2.2.2.2.2.2.2.2.2.2.2.2.2.2.2.2.2.2.2.2.2.2.2.2.2.2.2.2.1, h.2.2.2.2.2.2.2.2.2.2.2.2.2.2.2.2.2.2.2.2.2.2.2.2.2.2.2.2.2.2.2.2.2.2.2.2.2.2.2.2.2.2.2.2.2.2.2.2.2.2.2.2.2.2.2.2.2.2.2.2.2.2.2.1, h.2.2.2.2.2.2.2.2.2.2.2.2.2.2.2.2.2.2.2.2.2.2.2.2.2.2.2.2.2.2.2.2.2.2.2.2.2.2.2.2.2.2.2.2.2.2.2.2.2.2.2.2.2.2.2.2.2.2.2.2.2.2.2.2.1, h.2.2.2.2.2.2.2.2.2.2.2.2.2.2.2.2.2.2.2.2.2.2.2.2.2.2.2.2.2.2.2.2.2.2.2.2.2.2.2.2.2.2.2.2.2.2.2.2.2.2.2.2.2.2.2.2.2.2.2.2.2.2.2.2.2.1, h.2.2.2.2.2.2.2.2.2.2.2.2.2.2.2.2.2.2.2.2.2.2.2.2.2.2.2.2.2.2.2.2.2.2.2.2.2.2.2.2.2.2.2.2.2.2.2.2.2.2.2.2.2.2.2.2.2.2.2.2.2.2.2.2.2.2.1, h.2.2.2.2.2.2.2.2.2.2.2.2.2.2.2.2.2.2.2.2.2.2.2.2.2.2.2.2.2.2.2.2.2.2.2.2.2.2.2.2.2.2.2.2.2.2.2.2.2.2.2.2.2.2.2.2.2.2.2.2.2.2.2.2.2.2.2.2.2.2.2.2.2.1, h.2.2.2.2.2.2.2.2.2.2.2.2.2.2.2.2.2.2.2.2.2.2.2.2.2.2.2.2.2.2.2.2.2.2.2.2.2.2.2.2.2.2.2.2.2.2.2.2.2.2.2.2.2.2.2.2.2.2.2.2.2.2.2.2.2.2.2.2.2.2.2.2.2.2.1⟩⟩

def HMS (n t : Int32) (T R S : Nat → Int32) (un im hh t2 : Int32) (R2 S2 : Nat → Int32) (un2 im2 hh2 : Int32) : Prop := (¬ (0 ≤ n.toInt ∧ n.toInt ≤ t.toInt) ∧ t2 = t ∧ R2 = R ∧ S2 = S ∧ un2 = un ∧ im2 = im ∧ hh2 = hh) ∨ ((0 ≤ n.toInt ∧ n.toInt ≤ t.toInt) ∧ ∃ F0 : Nat → Int32, (∀ i : Nat, i < 311 → F0 i = 0) ∧ ∀ (k : Nat) (ρ : Rs ((Nat → Int32) × Int32)), TxR T n k F0 (rn T n 5 0) ρ → t2 = 0 ∧ ((∃ e : Int32 × Int32, ρ = .inl e ∧ R2 = R ∧ S2 = S ∧ un2 = un ∧ im2 = im ∧ hh2 = hh) ∨ (∃ v : (Nat → Int32) × Int32, ρ = .inr v ∧ hh2 = 1 ∧ (∀ i : Nat, i < 311 → R2 i = v.1 i) ∧ un2 = 0 ∧ im2 = 0 ∧ (FIv v.1 → IV (v.1 12) 0 8 → StF v.1 S2))))
theorem qm_houseS {p0 m_taped m_size m_at m_end m_token m_whole m_nameSize m_fault m_place m_failed m_hasHouse m_undos m_images : Int32} {d_tape d_letters d_r d_fresh d_st : Nat → Int32} {m_at2 m_end2 m_failed2 m_fault2 : Int32} {d_fresh2 : Nat → Int32} {m_hasHouse2 m_images2 : Int32} {d_letters2 : Nat → Int32} {m_nameSize2 m_place2 : Int32} {d_r2 : Nat → Int32} {m_size2 : Int32} {d_st2 : Nat → Int32} {m_taped2 m_thrown2 m_token2 m_trouble2 m_undos2 m_whole2 r : Int32} (hn : IV m_taped 0 900) (h : R_m_houseX p0 m_taped m_size m_at m_end m_token m_whole m_nameSize m_fault m_place m_failed m_hasHouse m_undos m_images d_tape d_letters d_r d_fresh d_st m_at2 m_end2 m_failed2 m_fault2 d_fresh2 m_hasHouse2 m_images2 d_letters2 m_nameSize2 m_place2 d_r2 m_size2 d_st2 m_taped2 m_thrown2 m_token2 m_trouble2 m_undos2 m_whole2 r) : HMS p0 m_taped d_tape d_r d_st m_undos m_images m_hasHouse m_taped2 d_r2 d_st2 m_undos2 m_images2 m_hasHouse2 := by
  rcases qm_house hn h with ⟨q, -, -, -, h3, -, -, -, h4, h5, h6, h7, h8⟩ | ⟨q, F0, hF, h⟩
  · exact Or.inl ⟨q, h3, h5, h6, h7, h8, h4⟩
  · refine Or.inr ⟨q, F0, hF, fun k ρ hk => ?_⟩
    obtain ⟨-, h1, -, h⟩ := h k ρ hk
    refine ⟨h1, ?_⟩
    rcases h with ⟨e, e1, -, -, -, -, e2, e3, e4, e5, e6⟩ | ⟨v, e1, -, -, -, e2, e3, e4, e5, e6⟩
    · exact Or.inl ⟨e, e1, e3, e4, e5, e6, e2⟩
    · exact Or.inr ⟨v, e1, e2, e3, e4, e5, e6⟩

set_option maxRecDepth 100000
set_option maxHeartbeats 4000000
def LR (xtpd : Int32) (tpf yhnf : Nat → Int32) (yhtn : Int32) (yhtf : Nat → Int32) (yhjn : Int32) (yhjf : Nat → Int32) (yhmn : Int32) (yhmf : Nat → Int32) (yhbn : Int32) (yhbf : Nat → Int32) (yhsn : Int32) (yhsf : Nat → Int32) (yhcn : Int32) (yhcf : Nat → Int32) (zrn zmn zwn zpn zmd ztr : Int32) (zrf zmf zwf zpf : Nat → Int32) (kac knx kim : Int32) (cf : Nat → SC) (m_taped : Int32) (d_tape d_r d_st d_undone d_kept : Nat → Int32) (m_undos m_images m_hasHouse : Int32) : Prop := (xtpd = m_taped ∧ TpR tpf d_tape) ∧ ST d_r d_st d_undone d_kept m_undos m_images m_hasHouse zrn zmn zwn zpn zmd ztr zrf zmf zwf zpf kac knx kim cf ∧ TO d_r yhnf yhtn yhtf yhjn yhjf yhmn yhmf yhbn yhbf yhsn yhsf yhcn yhcf ∧ FIv d_r ∧ RV d_r
theorem no0 {k : Nat} {P : Prop} (h : (k : Int) < (0 : Int32).toInt) : P := by rw [zI] at h; omega
theorem LR0 {cf : Nat → SC} : LR 0 (fun _ => 0) (fun _ => 0) 0 (fun _ => 0) 0 (fun _ => 0) 0 (fun _ => 0) 0 (fun _ => 0) 0 (fun _ => 0) 0 (fun _ => 0) 0 0 0 0 0 0 (fun _ => 0) (fun _ => 0) (fun _ => 0) (fun _ => 0) 0 0 0 cf 0 (fun _ => 0) (fun _ => 0) (fun _ => 0) (fun _ => 0) (fun _ => 0) 0 0 0 :=
  ⟨⟨rfl, fun _ _ => ⟨show IV (0 : Int32) 0 255 from (by decide), show (0 : Int32) = sx 0 from (by decide)⟩⟩,
   ⟨⟨show IV (0 : Int32) 0 8 from (by decide), show IV (0 : Int32) 0 12 from (by decide), show IV (0 : Int32) 0 6 from (by decide), show IV (0 : Int32) 0 8 from (by decide)⟩, ⟨⟨rfl, rfl, rfl, rfl, rfl, rfl⟩, fun k hk => no0 hk, fun k hk => no0 hk, fun k hk => no0 hk, fun k hk => no0 hk⟩, ⟨⟨rfl, rfl, show IV (0 : Int32) 0 12 from (by decide), show IV (0 : Int32) 0 11 from (by decide), show IV (0 : Int32) 0 3 from (by decide)⟩, fun k hk => no0 hk, fun k hk => no0 hk⟩, Or.inl rfl, fun _ => ⟨rfl, rfl, rfl, rfl⟩, fun q => absurd rfl q⟩,
   ⟨⟨rfl, rfl, rfl, rfl, rfl⟩, Or.inl ⟨rfl, rfl⟩, fun _ _ => rfl, fun k j hk _ => no0 hk, fun k j hk _ => no0 hk, fun k hk => no0 hk, fun q j _ => rfl, fun k j hk _ => no0 hk, fun k j hk _ => no0 hk⟩,
   ⟨show IV (0 : Int32) 0 8 from (by decide), show IV (0 : Int32) 0 4 from (by decide), show IV (0 : Int32) 0 12 from (by decide), show IV (0 : Int32) 0 8 from (by decide), show IV (0 : Int32) 0 6 from (by decide), show IV (0 : Int32) 0 4 from (by decide), show IV (0 : Int32) 0 6 from (by decide), show IV (0 : Int32) 0 6 from (by decide)⟩,
   ⟨fun k hk => no0 hk, fun k hk => no0 hk, fun k hk => no0 hk, fun k hk => no0 hk, fun k hk => no0 hk, fun k hk => no0 hk, fun k hk => no0 hk⟩⟩
theorem LR_feed {xtpd : Int32} {tpf yhnf : Nat → Int32} {yhtn : Int32} {yhtf : Nat → Int32} {yhjn : Int32} {yhjf : Nat → Int32} {yhmn : Int32} {yhmf : Nat → Int32} {yhbn : Int32} {yhbf : Nat → Int32} {yhsn : Int32} {yhsf : Nat → Int32} {yhcn : Int32} {yhcf : Nat → Int32} {zrn zmn zwn zpn zmd ztr : Int32} {zrf zmf zwf zpf : Nat → Int32} {kac knx kim : Int32} {cf : Nat → SC} {m_taped : Int32} {d_tape d_r d_st d_undone d_kept : Nat → Int32} {m_undos m_images m_hasHouse xtpd_2 : Int32} {tpf_2 : Nat → Int32} {m_taped_2 : Int32} {d_tape_2 : Nat → Int32} {p0 p1 p2 p3 p4 r r2 : Int32} (h : LR xtpd tpf yhnf yhtn yhtf yhjn yhjf yhmn yhmf yhbn yhbf yhsn yhsf yhcn yhcf zrn zmn zwn zpn zmd ztr zrf zmf zwf zpf kac knx kim cf m_taped d_tape d_r d_st d_undone d_kept m_undos m_images m_hasHouse) (hx : R_c_feedX p0 p1 p2 p3 p4 xtpd tpf xtpd_2 tpf_2 r) (hm : ∃ th : Int32, R_m_feedX p0 p1 p2 p3 p4 m_taped d_tape d_tape_2 m_taped_2 th r2) : LR xtpd_2 tpf_2 yhnf yhtn yhtf yhjn yhjf yhmn yhmf yhbn yhbf yhsn yhsf yhcn yhcf zrn zmn zwn zpn zmd ztr zrf zmf zwf zpf kac knx kim cf m_taped_2 d_tape_2 d_r d_st d_undone d_kept m_undos m_images m_hasHouse := by
  obtain ⟨⟨e, hT⟩, h3⟩ := h
  obtain ⟨th, hm⟩ := hm
  rw [← e] at hm
  obtain ⟨h1, h2, -⟩ := q_feed hx hm hT
  exact ⟨⟨h1, h2⟩, h3⟩
theorem LR_house {xtpd : Int32} {tpf yhnf : Nat → Int32} {yhtn : Int32} {yhtf : Nat → Int32} {yhjn : Int32} {yhjf : Nat → Int32} {yhmn : Int32} {yhmf : Nat → Int32} {yhbn : Int32} {yhbf : Nat → Int32} {yhsn : Int32} {yhsf : Nat → Int32} {yhcn : Int32} {yhcf : Nat → Int32} {zrn zmn zwn zpn zmd ztr : Int32} {zrf zmf zwf zpf : Nat → Int32} {kac knx kim : Int32} {cf : Nat → SC} {m_taped : Int32} {d_tape d_r d_st d_undone d_kept : Nat → Int32} {m_undos m_images m_hasHouse xtpd_2 : Int32} {yhnf_2 : Nat → Int32} {yhtn_2 : Int32} {yhtf_2 : Nat → Int32} {yhjn_2 : Int32} {yhjf_2 : Nat → Int32} {yhmn_2 : Int32} {yhmf_2 : Nat → Int32} {yhbn_2 : Int32} {yhbf_2 : Nat → Int32} {yhsn_2 : Int32} {yhsf_2 : Nat → Int32} {yhcn_2 : Int32} {yhcf_2 : Nat → Int32} {zrn_2 zmn_2 zwn_2 zpn_2 zmd_2 ztr_2 : Int32} {zrf_2 zmf_2 zwf_2 zpf_2 : Nat → Int32} {kac_2 kim_2 m_taped_2 : Int32} {d_r_2 d_st_2 : Nat → Int32} {m_undos_2 m_images_2 m_hasHouse_2 : Int32} {p0 : Int32} (h : LR xtpd tpf yhnf yhtn yhtf yhjn yhjf yhmn yhmf yhbn yhbf yhsn yhsf yhcn yhcf zrn zmn zwn zpn zmd ztr zrf zmf zwf zpf kac knx kim cf m_taped d_tape d_r d_st d_undone d_kept m_undos m_images m_hasHouse) (hx : HXS p0 xtpd tpf yhnf yhtn yhtf yhjn yhjf yhmn yhmf yhbn yhbf yhsn yhsf yhcn yhcf zrn zmn zwn zpn zmd ztr zrf zmf zwf zpf kac kim xtpd_2 yhnf_2 yhtn_2 yhtf_2 yhjn_2 yhjf_2 yhmn_2 yhmf_2 yhbn_2 yhbf_2 yhsn_2 yhsf_2 yhcn_2 yhcf_2 zrn_2 zmn_2 zwn_2 zpn_2 zmd_2 ztr_2 zrf_2 zmf_2 zwf_2 zpf_2 kac_2 kim_2) (hm : HMS p0 m_taped d_tape d_r d_st m_undos m_images m_hasHouse m_taped_2 d_r_2 d_st_2 m_undos_2 m_images_2 m_hasHouse_2) : LR xtpd_2 tpf yhnf_2 yhtn_2 yhtf_2 yhjn_2 yhjf_2 yhmn_2 yhmf_2 yhbn_2 yhbf_2 yhsn_2 yhsf_2 yhcn_2 yhcf_2 zrn_2 zmn_2 zwn_2 zpn_2 zmd_2 ztr_2 zrf_2 zmf_2 zwf_2 zpf_2 kac_2 knx kim_2 cf m_taped_2 d_tape d_r_2 d_st_2 d_undone d_kept m_undos_2 m_images_2 m_hasHouse_2 := by
  obtain ⟨⟨e, hT⟩, hS, hTO, hB, hV⟩ := h
  subst e
  rcases hx d_tape hT with ⟨q, x1, x2⟩ | ⟨q, x1, x2⟩
  · rcases hm with ⟨-, y1, y2, y3, y4, y5, y6⟩ | ⟨q2, -⟩
    · unfold SAMEh at x2
      obtain ⟨rfl, rfl, rfl, rfl, rfl, rfl, rfl, rfl, rfl, rfl, rfl, rfl, rfl, rfl, rfl, rfl, rfl, rfl, rfl, rfl, rfl, rfl, rfl, rfl, rfl⟩ := x2
      subst y2 y3 y4 y5 y6
      exact ⟨⟨x1.trans y1.symm, hT⟩, hS, hTO, hB, hV⟩
    · exact absurd q2 q
  · rcases hm with ⟨q2, -⟩ | ⟨-, F0, hF, hm⟩
    · exact absurd q q2
    · obtain ⟨k, ρ, hk, hx⟩ := x2 F0 hF
      obtain ⟨y1, hm⟩ := hm k ρ hk
      rcases hx with ⟨e, e1, x2⟩ | ⟨v, e1, x2, x3, x4, x5, x6, x7, x8⟩
      · rcases hm with ⟨e', e2, y2, y3, y4, y5, y6⟩ | ⟨v', e2, -⟩
        · unfold SAMEh at x2
          obtain ⟨rfl, rfl, rfl, rfl, rfl, rfl, rfl, rfl, rfl, rfl, rfl, rfl, rfl, rfl, rfl, rfl, rfl, rfl, rfl, rfl, rfl, rfl, rfl, rfl, rfl⟩ := x2
          subst y2 y3 y4 y5 y6
          exact ⟨⟨x1.trans y1.symm, hT⟩, hS, hTO, hB, hV⟩
        · exact absurd (e1.symm.trans e2) (by intro q; cases q)
      · rcases hm with ⟨e', e2, -⟩ | ⟨v', e2, y2, y3, y4, y5, y6⟩
        · exact absurd (e1.symm.trans e2) (by intro q; cases q)
        · cases Sum.inr.inj (e1.symm.trans e2)
          subst e1
          have h12 := (TxR_in _ _ _ _ hk).2.1
          have hB2 := FIv.cg y3 x6
          have b12 : IV (d_r_2 12) 0 8 := by rw [y3 12 (by first | decide | omega)]; exact x7
          obtain ⟨-, -, ⟨⟨-, -, -, iv2, -⟩, -⟩, -⟩ := hS
          refine ⟨⟨x1.trans y1.symm, hT⟩, ⟨⟨hB2.1, hB2.2.2.1, hB2.2.2.2.2.1, b12⟩, SG_SR y3 x6 x7 x3 (y6 x6 x7), ⟨⟨x4.trans y4.symm, x5.trans y5.symm, ?_, iv2, ?_⟩, fun i hi => ?_, fun i hi => ?_⟩, Or.inr y2, fun q => absurd (y2.symm.trans q) (by decide), fun _ => ?_⟩, TO.cg y3 x6 x2, hB2, RV.cg y3 x6 x7 x8⟩
          · rw [x4]; decide
          · rw [x5]; decide
          · rw [x4] at hi; exact no0 hi
          · rw [x5] at hi; exact no0 hi
          · rw [y3 12 (by first | decide | omega)]
            have q0 := x7.1
            have q1 : (v.1 12).toInt ≠ 0 := fun w => h12 (Int32.toInt_inj.mp (w.trans zI.symm))
            omega
theorem LR_threads {xtpd : Int32} {tpf yhnf : Nat → Int32} {yhtn : Int32} {yhtf : Nat → Int32} {yhjn : Int32} {yhjf : Nat → Int32} {yhmn : Int32} {yhmf : Nat → Int32} {yhbn : Int32} {yhbf : Nat → Int32} {yhsn : Int32} {yhsf : Nat → Int32} {yhcn : Int32} {yhcf : Nat → Int32} {zrn zmn zwn zpn zmd ztr : Int32} {zrf zmf zwf zpf : Nat → Int32} {kac knx kim : Int32} {cf : Nat → SC} {m_taped : Int32} {d_tape d_r d_st d_undone d_kept : Nat → Int32} {m_undos m_images m_hasHouse zrn_2 zmn_2 zwn_2 zpn_2 zmd_2 ztr_2 : Int32} {zrf_2 zmf_2 zwf_2 zpf_2 : Nat → Int32} {kac_2 knx_2 : Int32} {cf_2 : Nat → SC} {d_st_2 d_undone_2 : Nat → Int32} {m_undos_2 : Int32} {p0 p1 r r2 : Int32} (h : LR xtpd tpf yhnf yhtn yhtf yhjn yhjf yhmn yhmf yhbn yhbf yhsn yhsf yhcn yhcf zrn zmn zwn zpn zmd ztr zrf zmf zwf zpf kac knx kim cf m_taped d_tape d_r d_st d_undone d_kept m_undos m_images m_hasHouse) (hx : ∃ t1 : Int32, R_c_threadsX p0 p1 zmd ztr zrn zrf zmn zmf zwn zwf zpn zpf kac knx cf t1 zrf_2 zmf_2 zwf_2 zpf_2 zrn_2 zmn_2 zwn_2 zpn_2 zmd_2 ztr_2 kac_2 knx_2 cf_2 r) (hm : ∃ t2 : Int32, ∃ t3 : Int32, R_m_threadsX p0 p1 m_hasHouse m_undos d_r d_st d_undone d_st_2 t2 t3 d_undone_2 m_undos_2 r2) : LR xtpd tpf yhnf yhtn yhtf yhjn yhjf yhmn yhmf yhbn yhbf yhsn yhsf yhcn yhcf zrn_2 zmn_2 zwn_2 zpn_2 zmd_2 ztr_2 zrf_2 zmf_2 zwf_2 zpf_2 kac_2 knx_2 kim cf_2 m_taped d_tape d_r d_st_2 d_undone_2 d_kept m_undos_2 m_images m_hasHouse := by
  obtain ⟨h0, hS, hTO, hB, hV⟩ := h
  obtain ⟨t1, hx⟩ := hx
  obtain ⟨t2, t3, hm⟩ := hm
  exact ⟨h0, (A_threads hS hx hm).1, hTO, hB, hV⟩
theorem LR_trim {xtpd : Int32} {tpf yhnf : Nat → Int32} {yhtn : Int32} {yhtf : Nat → Int32} {yhjn : Int32} {yhjf : Nat → Int32} {yhmn : Int32} {yhmf : Nat → Int32} {yhbn : Int32} {yhbf : Nat → Int32} {yhsn : Int32} {yhsf : Nat → Int32} {yhcn : Int32} {yhcf : Nat → Int32} {zrn zmn zwn zpn zmd ztr : Int32} {zrf zmf zwf zpf : Nat → Int32} {kac knx kim : Int32} {cf : Nat → SC} {m_taped : Int32} {d_tape d_r d_st d_undone d_kept : Nat → Int32} {m_undos m_images m_hasHouse zrn_2 zmn_2 zwn_2 zpn_2 zmd_2 ztr_2 : Int32} {zrf_2 zmf_2 zwf_2 zpf_2 : Nat → Int32} {kac_2 knx_2 : Int32} {cf_2 : Nat → SC} {d_st_2 d_undone_2 : Nat → Int32} {m_undos_2 : Int32} {p0 p1 r r2 : Int32} (h : LR xtpd tpf yhnf yhtn yhtf yhjn yhjf yhmn yhmf yhbn yhbf yhsn yhsf yhcn yhcf zrn zmn zwn zpn zmd ztr zrf zmf zwf zpf kac knx kim cf m_taped d_tape d_r d_st d_undone d_kept m_undos m_images m_hasHouse) (hx : ∃ t1 : Int32, R_c_trimX p0 p1 zmd ztr zrn zrf zmn zmf zwn zwf zpn zpf kac knx cf t1 zrf_2 zmf_2 zwf_2 zpf_2 zrn_2 zmn_2 zwn_2 zpn_2 zmd_2 ztr_2 kac_2 knx_2 cf_2 r) (hm : ∃ t2 : Int32, ∃ t3 : Int32, R_m_trimX p0 p1 m_hasHouse m_undos d_r d_st d_undone d_st_2 t2 t3 d_undone_2 m_undos_2 r2) (hp : p1 = 0 ∨ p1 = 1 := by decide) : LR xtpd tpf yhnf yhtn yhtf yhjn yhjf yhmn yhmf yhbn yhbf yhsn yhsf yhcn yhcf zrn_2 zmn_2 zwn_2 zpn_2 zmd_2 ztr_2 zrf_2 zmf_2 zwf_2 zpf_2 kac_2 knx_2 kim cf_2 m_taped d_tape d_r d_st_2 d_undone_2 d_kept m_undos_2 m_images m_hasHouse := by
  obtain ⟨h0, hS, hTO, hB, hV⟩ := h
  obtain ⟨t1, hx⟩ := hx
  obtain ⟨t2, t3, hm⟩ := hm
  exact ⟨h0, (A_trim hp hS hx hm).1, hTO, hB, hV⟩
theorem LR_mend {xtpd : Int32} {tpf yhnf : Nat → Int32} {yhtn : Int32} {yhtf : Nat → Int32} {yhjn : Int32} {yhjf : Nat → Int32} {yhmn : Int32} {yhmf : Nat → Int32} {yhbn : Int32} {yhbf : Nat → Int32} {yhsn : Int32} {yhsf : Nat → Int32} {yhcn : Int32} {yhcf : Nat → Int32} {zrn zmn zwn zpn zmd ztr : Int32} {zrf zmf zwf zpf : Nat → Int32} {kac knx kim : Int32} {cf : Nat → SC} {m_taped : Int32} {d_tape d_r d_st d_undone d_kept : Nat → Int32} {m_undos m_images m_hasHouse zrn_2 zmn_2 zwn_2 zpn_2 zmd_2 ztr_2 : Int32} {zrf_2 zmf_2 zwf_2 zpf_2 : Nat → Int32} {kac_2 knx_2 : Int32} {cf_2 : Nat → SC} {d_st_2 d_undone_2 : Nat → Int32} {m_undos_2 : Int32} {p0 r r2 : Int32} (h : LR xtpd tpf yhnf yhtn yhtf yhjn yhjf yhmn yhmf yhbn yhbf yhsn yhsf yhcn yhcf zrn zmn zwn zpn zmd ztr zrf zmf zwf zpf kac knx kim cf m_taped d_tape d_r d_st d_undone d_kept m_undos m_images m_hasHouse) (hx : ∃ t1 : Int32, R_c_mendX p0 zmd ztr zrn zrf zmn zmf zwn zwf zpn zpf kac knx cf t1 zrf_2 zmf_2 zwf_2 zpf_2 zrn_2 zmn_2 zwn_2 zpn_2 zmd_2 ztr_2 kac_2 knx_2 cf_2 r) (hm : ∃ t2 : Int32, ∃ t3 : Int32, R_m_mendX p0 m_hasHouse m_undos d_r d_st d_undone d_st_2 t2 t3 d_undone_2 m_undos_2 r2) : LR xtpd tpf yhnf yhtn yhtf yhjn yhjf yhmn yhmf yhbn yhbf yhsn yhsf yhcn yhcf zrn_2 zmn_2 zwn_2 zpn_2 zmd_2 ztr_2 zrf_2 zmf_2 zwf_2 zpf_2 kac_2 knx_2 kim cf_2 m_taped d_tape d_r d_st_2 d_undone_2 d_kept m_undos_2 m_images m_hasHouse := by
  obtain ⟨h0, hS, hTO, hB, hV⟩ := h
  obtain ⟨t1, hx⟩ := hx
  obtain ⟨t2, t3, hm⟩ := hm
  exact ⟨h0, (A_mend (fun k hk => hV.2.2.2.1 k hk) hS hx hm).1, hTO, hB, hV⟩
theorem LR_undo {xtpd : Int32} {tpf yhnf : Nat → Int32} {yhtn : Int32} {yhtf : Nat → Int32} {yhjn : Int32} {yhjf : Nat → Int32} {yhmn : Int32} {yhmf : Nat → Int32} {yhbn : Int32} {yhbf : Nat → Int32} {yhsn : Int32} {yhsf : Nat → Int32} {yhcn : Int32} {yhcf : Nat → Int32} {zrn zmn zwn zpn zmd ztr : Int32} {zrf zmf zwf zpf : Nat → Int32} {kac knx kim : Int32} {cf : Nat → SC} {m_taped : Int32} {d_tape d_r d_st d_undone d_kept : Nat → Int32} {m_undos m_images m_hasHouse zrn_2 zmn_2 zwn_2 zpn_2 zmd_2 ztr_2 : Int32} {zrf_2 zmf_2 zwf_2 zpf_2 : Nat → Int32} {kac_2 knx_2 : Int32} {cf_2 : Nat → SC} {d_st_2 : Nat → Int32} {m_undos_2 : Int32} {r r2 : Int32} (h : LR xtpd tpf yhnf yhtn yhtf yhjn yhjf yhmn yhmf yhbn yhbf yhsn yhsf yhcn yhcf zrn zmn zwn zpn zmd ztr zrf zmf zwf zpf kac knx kim cf m_taped d_tape d_r d_st d_undone d_kept m_undos m_images m_hasHouse) (hx : ∃ t1 : Int32, R_c_undoX zmd ztr zrn zrf zmn zmf zwn zwf zpn zpf kac knx cf t1 zrf_2 zmf_2 zwf_2 zpf_2 zrn_2 zmn_2 zwn_2 zpn_2 zmd_2 ztr_2 kac_2 knx_2 cf_2 r) (hm : ∃ t2 : Int32, ∃ t3 : Int32, R_m_undoX m_undos d_st d_undone d_st_2 t2 t3 m_undos_2 r2) : LR xtpd tpf yhnf yhtn yhtf yhjn yhjf yhmn yhmf yhbn yhbf yhsn yhsf yhcn yhcf zrn_2 zmn_2 zwn_2 zpn_2 zmd_2 ztr_2 zrf_2 zmf_2 zwf_2 zpf_2 kac_2 knx_2 kim cf_2 m_taped d_tape d_r d_st_2 d_undone d_kept m_undos_2 m_images m_hasHouse := by
  obtain ⟨h0, hS, hTO, hB, hV⟩ := h
  obtain ⟨t1, hx⟩ := hx
  obtain ⟨t2, t3, hm⟩ := hm
  exact ⟨h0, (A_undo hS hx hm).1, hTO, hB, hV⟩
theorem LR_image {xtpd : Int32} {tpf yhnf : Nat → Int32} {yhtn : Int32} {yhtf : Nat → Int32} {yhjn : Int32} {yhjf : Nat → Int32} {yhmn : Int32} {yhmf : Nat → Int32} {yhbn : Int32} {yhbf : Nat → Int32} {yhsn : Int32} {yhsf : Nat → Int32} {yhcn : Int32} {yhcf : Nat → Int32} {zrn zmn zwn zpn zmd ztr : Int32} {zrf zmf zwf zpf : Nat → Int32} {kac knx kim : Int32} {cf : Nat → SC} {m_taped : Int32} {d_tape d_r d_st d_undone d_kept : Nat → Int32} {m_undos m_images m_hasHouse zrn_2 zmn_2 zwn_2 zpn_2 zmd_2 ztr_2 : Int32} {zrf_2 zmf_2 zwf_2 zpf_2 : Nat → Int32} {kim_2 : Int32} {cf_2 : Nat → SC} {d_kept_2 : Nat → Int32} {m_images_2 : Int32} {r r2 : Int32} (h : LR xtpd tpf yhnf yhtn yhtf yhjn yhjf yhmn yhmf yhbn yhbf yhsn yhsf yhcn yhcf zrn zmn zwn zpn zmd ztr zrf zmf zwf zpf kac knx kim cf m_taped d_tape d_r d_st d_undone d_kept m_undos m_images m_hasHouse) (hx : ∃ t1 : Int32, R_c_imageX zmd ztr zrn zrf zmn zmf zwn zwf zpn zpf kim cf t1 zrf_2 zmf_2 zwf_2 zpf_2 zrn_2 zmn_2 zwn_2 zpn_2 zmd_2 ztr_2 kim_2 cf_2 r) (hm : ∃ t2 : Int32, ∃ t3 : Int32, R_m_imageX m_hasHouse m_images d_st d_kept m_images_2 d_kept_2 t2 t3 r2) : LR xtpd tpf yhnf yhtn yhtf yhjn yhjf yhmn yhmf yhbn yhbf yhsn yhsf yhcn yhcf zrn_2 zmn_2 zwn_2 zpn_2 zmd_2 ztr_2 zrf_2 zmf_2 zwf_2 zpf_2 kac knx kim_2 cf_2 m_taped d_tape d_r d_st d_undone d_kept_2 m_undos m_images_2 m_hasHouse := by
  obtain ⟨h0, hS, hTO, hB, hV⟩ := h
  obtain ⟨t1, hx⟩ := hx
  obtain ⟨t2, t3, hm⟩ := hm
  exact ⟨h0, (A_image hS hx hm).1, hTO, hB, hV⟩
theorem LR_back {xtpd : Int32} {tpf yhnf : Nat → Int32} {yhtn : Int32} {yhtf : Nat → Int32} {yhjn : Int32} {yhjf : Nat → Int32} {yhmn : Int32} {yhmf : Nat → Int32} {yhbn : Int32} {yhbf : Nat → Int32} {yhsn : Int32} {yhsf : Nat → Int32} {yhcn : Int32} {yhcf : Nat → Int32} {zrn zmn zwn zpn zmd ztr : Int32} {zrf zmf zwf zpf : Nat → Int32} {kac knx kim : Int32} {cf : Nat → SC} {m_taped : Int32} {d_tape d_r d_st d_undone d_kept : Nat → Int32} {m_undos m_images m_hasHouse zrn_2 zmn_2 zwn_2 zpn_2 zmd_2 ztr_2 : Int32} {zrf_2 zmf_2 zwf_2 zpf_2 : Nat → Int32} {kac_2 : Int32} {cf_2 : Nat → SC} {d_st_2 : Nat → Int32} {m_undos_2 : Int32} {p0 r r2 : Int32} (h : LR xtpd tpf yhnf yhtn yhtf yhjn yhjf yhmn yhmf yhbn yhbf yhsn yhsf yhcn yhcf zrn zmn zwn zpn zmd ztr zrf zmf zwf zpf kac knx kim cf m_taped d_tape d_r d_st d_undone d_kept m_undos m_images m_hasHouse) (hx : ∃ t1 : Int32, R_c_backX p0 zmd ztr zrn zrf zmn zmf zwn zwf zpn zpf kac kim cf t1 zrf_2 zmf_2 zwf_2 zpf_2 zrn_2 zmn_2 zwn_2 zpn_2 zmd_2 ztr_2 kac_2 cf_2 r) (hm : ∃ t2 : Int32, ∃ t3 : Int32, R_m_backX p0 m_undos m_images d_st d_kept d_st_2 t2 t3 m_undos_2 r2) : LR xtpd tpf yhnf yhtn yhtf yhjn yhjf yhmn yhmf yhbn yhbf yhsn yhsf yhcn yhcf zrn_2 zmn_2 zwn_2 zpn_2 zmd_2 ztr_2 zrf_2 zmf_2 zwf_2 zpf_2 kac_2 knx kim cf_2 m_taped d_tape d_r d_st_2 d_undone d_kept m_undos_2 m_images m_hasHouse := by
  obtain ⟨h0, hS, hTO, hB, hV⟩ := h
  obtain ⟨t1, hx⟩ := hx
  obtain ⟨t2, t3, hm⟩ := hm
  exact ⟨h0, (A_back hS hx hm).1, hTO, hB, hV⟩
theorem LR_backA {xtpd : Int32} {tpf yhnf : Nat → Int32} {yhtn : Int32} {yhtf : Nat → Int32} {yhjn : Int32} {yhjf : Nat → Int32} {yhmn : Int32} {yhmf : Nat → Int32} {yhbn : Int32} {yhbf : Nat → Int32} {yhsn : Int32} {yhsf : Nat → Int32} {yhcn : Int32} {yhcf : Nat → Int32} {zrn zmn zwn zpn zmd ztr : Int32} {zrf zmf zwf zpf : Nat → Int32} {kac knx kim : Int32} {cf : Nat → SC} {m_taped : Int32} {d_tape d_r d_st d_undone d_kept : Nat → Int32} {m_undos m_images m_hasHouse zrn_2 zmn_2 zwn_2 zpn_2 zmd_2 ztr_2 : Int32} {zrf_2 zmf_2 zwf_2 zpf_2 : Nat → Int32} {kac_2 : Int32} {cf_2 : Nat → SC} {d_st_2 : Nat → Int32} {m_undos_2 : Int32} {p0 r r2 : Int32} (h : LR xtpd tpf yhnf yhtn yhtf yhjn yhjf yhmn yhmf yhbn yhbf yhsn yhsf yhcn yhcf zrn zmn zwn zpn zmd ztr zrf zmf zwf zpf kac knx kim cf m_taped d_tape d_r d_st d_undone d_kept m_undos m_images m_hasHouse) (hx : ∃ t1 : Int32, R_c_backX p0 zmd ztr zrn zrf zmn zmf zwn zwf zpn zpf kac kim cf t1 zrf_2 zmf_2 zwf_2 zpf_2 zrn_2 zmn_2 zwn_2 zpn_2 zmd_2 ztr_2 kac_2 cf_2 r) (hm : ∃ t2 : Int32, ∃ t3 : Int32, R_m_backX p0 m_undos m_images d_st d_kept d_st_2 t2 t3 m_undos_2 r2) : r = r2 := by
  obtain ⟨h0, hS, hTO, hB, hV⟩ := h
  obtain ⟨t1, hx⟩ := hx
  obtain ⟨t2, t3, hm⟩ := hm
  exact (A_back hS hx hm).2.1
