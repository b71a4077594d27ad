set_option maxRecDepth 100000
set_option maxHeartbeats 4000000
def fpk (p0 p1 p2 p3 p4 u : Int32) : Int32 := if 4 ≤ u then (if 8 ≤ u then (if 12 ≤ u then (if 16 ≤ u then p4 else p3) else p2) else p1) else p0
def fby (p u : Int32) : Int32 := (p >>> (((24 : Int32) - (8 : Int32) * (u - u / (4 : Int32) * (4 : Int32))) &&& 31)) &&& (255 : Int32)
def fdT (p0 p1 p2 p3 p4 : Int32) : Nat → Int32 → Int32 → (Nat → Int32) → (Nat → Int32)
  | 0, _, _, F => F
  | m + 1, u, k, F => fdT p0 p1 p2 p3 p4 m (u + 1) (k + 1) (upd F k.toNatClampNeg (fby (fpk p0 p1 p2 p3 p4 u) u))
def fdK : Nat → Int32 → Int32
  | 0, k => k
  | m + 1, k => fdK m (k + 1)
theorem fd_step {p0 p1 p2 p3 p4 u k : Int32} {κ : (Nat → Int32) → Int32 → Prop} {n : Nat} {F : Nat → Int32} (h : R_m_feedX_L0 p0 p1 p2 p3 p4 κ n F u k) : (20 ≤ u ∧ κ F k) ∨ (¬ 20 ≤ u ∧ ∃ m, R_m_feedX_L0 p0 p1 p2 p3 p4 κ m (upd F k.toNatClampNeg (fby (fpk p0 p1 p2 p3 p4 u) u)) (u + 1) (k + 1)) := by
  cases n with
  | zero => exact h.elim
  | succ n =>
    unfold R_m_feedX_L0 at h
    rcases h with h | ⟨hu, h⟩
    · exact Or.inl h
    refine Or.inr ⟨hu, n, ?_⟩
    unfold fby fpk
    rcases h with ⟨q4, h⟩ | ⟨q4, h⟩
    · rw [if_pos q4]
      rcases h with ⟨q8, h⟩ | ⟨q8, h⟩
      · rw [if_pos q8]
        rcases h with ⟨q12, h⟩ | ⟨q12, h⟩
        · rw [if_pos q12]
          rcases h with ⟨q16, h⟩ | ⟨q16, h⟩
          · rw [if_pos q16]
            obtain ⟨_, rfl, _, rfl, _, rfl, _, rfl, _, rfl, _, rfl, _, rfl, h⟩ := h
            exact h
          · rw [if_neg q16]
            obtain ⟨_, rfl, _, rfl, _, rfl, _, rfl, _, rfl, _, rfl, _, rfl, h⟩ := h
            exact h
        · rw [if_neg q12]
          obtain ⟨_, rfl, _, rfl, _, rfl, _, rfl, _, rfl, _, rfl, _, rfl, h⟩ := h
          exact h
      · rw [if_neg q8]
        obtain ⟨_, rfl, _, rfl, _, rfl, _, rfl, _, rfl, _, rfl, _, rfl, h⟩ := h
        exact h
    · rw [if_neg q4]
      obtain ⟨_, rfl, _, rfl, _, rfl, _, rfl, _, rfl, _, rfl, _, rfl, h⟩ := h
      exact h
theorem fd_all {p0 p1 p2 p3 p4 : Int32} {κ : (Nat → Int32) → Int32 → Prop} : ∀ (m : Nat) (u k : Int32) (n : Nat) (F : Nat → Int32), 0 ≤ u.toInt → u.toInt + m = 20 → R_m_feedX_L0 p0 p1 p2 p3 p4 κ n F u k → κ (fdT p0 p1 p2 p3 p4 m u k F) (fdK m k) := by
  intro m
  induction m with
  | zero =>
    intro u k n F hu0 hu h
    rcases fd_step h with ⟨-, h⟩ | ⟨q, -⟩
    · exact h
    · refine absurd (Int32.le_iff_toInt_le.mpr ?_) q
      have e : (20 : Int32).toInt = 20 := by decide
      omega
  | succ m ih =>
    intro u k n F hu0 hu h
    have e : (20 : Int32).toInt = 20 := by decide
    rcases fd_step h with ⟨q, -⟩ | ⟨-, n2, h⟩
    · have := Int32.le_iff_toInt_le.mp q
      omega
    · have e1 : (u + 1).toInt = u.toInt + 1 := by
        have o : (1 : Int32).toInt = 1 := by decide
        rw [Int32.toInt_add, o, Int.bmod_eq_of_le (by omega) (by omega)]
      exact ih (u + 1) (k + 1) n2 _ (by omega) (by omega) h
theorem sx_and (x : Int32) : sx (x &&& 255) = x.toInt8.toInt32 := by
  have e : (255 : Int32).toInt8 = -1 := by decide
  unfold sx
  rw [Int32.toInt8_and, e, Int8.and_neg_one]
theorem nar_byte (x : Int32) : vp_nar .byte (x.toInt8.toInt32) = x.toInt8.toInt32 := by
  show (x.toInt8.toInt32).toInt8.toInt32 = x.toInt8.toInt32
  rw [Int8.toInt8_toInt32]
theorem iv_byte (x : Int32) : IV (x &&& 255) 0 255 := by
  exact iv_and (Int32.and_comm _ _) (show IV 255 255 255 from (by decide)) (by decide)
theorem TpR_upd {tp T : Nat → Int32} {i : Nat} {p s u : Int32} (h : TpR tp T) (hs : ((24 : Int32) - (8 : Int32) * (u - u / (4 : Int32) * (4 : Int32))) &&& 31 = s &&& 31) : TpR (upd tp i (vp_nar .byte ((p >>> (s &&& 31)).toInt8.toInt32))) (upd T i (fby p u)) := by
  intro j hj
  unfold upd fby
  rw [hs]
  by_cases q : j = i
  · rw [if_pos q, if_pos q, nar_byte, sx_and]
    exact ⟨iv_byte _, rfl⟩
  · rw [if_neg q, if_neg q]
    exact h j hj
theorem q_feed {p0 p1 p2 p3 p4 t t2 t3 th r r2 : Int32} {tp T tp2 T2 : Nat → Int32} (hx : R_c_feedX p0 p1 p2 p3 p4 t tp t2 tp2 r) (hm : R_m_feedX p0 p1 p2 p3 p4 t T T2 t3 th r2) (h : TpR tp T) : t2 = t3 ∧ TpR tp2 T2 ∧ r = r2 := by
  obtain ⟨_, rfl, hx⟩ := hx
  obtain ⟨_, rfl, hm⟩ := hm
  rcases hx with ⟨q, hx⟩ | ⟨q, rfl, rfl, rfl⟩
  · rcases hm with ⟨-, n, hm⟩ | ⟨q2, -⟩
    · obtain ⟨rfl, rfl, -, rfl⟩ := fd_all 20 0 t n T (by decide) (by decide) hm
      obtain ⟨t5, tp5, ⟨_, rfl, _, rfl, _, rfl, _, rfl, _, rfl, _, rfl, _, rfl, _, rfl, _, rfl, _, rfl, _, rfl, _, rfl, rfl, rfl⟩, hx⟩ := hx
      obtain ⟨t5, tp5, ⟨_, rfl, _, rfl, _, rfl, _, rfl, _, rfl, _, rfl, _, rfl, _, rfl, _, rfl, _, rfl, _, rfl, _, rfl, rfl, rfl⟩, hx⟩ := hx
      obtain ⟨t5, tp5, ⟨_, rfl, _, rfl, _, rfl, _, rfl, _, rfl, _, rfl, _, rfl, _, rfl, _, rfl, _, rfl, _, rfl, _, rfl, rfl, rfl⟩, hx⟩ := hx
      obtain ⟨t5, tp5, ⟨_, rfl, _, rfl, _, rfl, _, rfl, _, rfl, _, rfl, _, rfl, _, rfl, _, rfl, _, rfl, _, rfl, _, rfl, rfl, rfl⟩, hx⟩ := hx
      obtain ⟨t5, tp5, ⟨_, rfl, _, rfl, _, rfl, _, rfl, _, rfl, _, rfl, _, rfl, _, rfl, _, rfl, _, rfl, _, rfl, _, rfl, rfl, rfl⟩, rfl, rfl, rfl⟩ := hx
      refine ⟨rfl, ?_, rfl⟩
      unfold fdT fdT fdT fdT fdT fdT fdT fdT fdT fdT fdT fdT fdT fdT fdT fdT fdT fdT fdT fdT fdT
      refine TpR_upd ?_ (by decide)
      refine TpR_upd ?_ (by decide)
      refine TpR_upd ?_ (by decide)
      refine TpR_upd ?_ (by decide)
      refine TpR_upd ?_ (by decide)
      refine TpR_upd ?_ (by decide)
      refine TpR_upd ?_ (by decide)
      refine TpR_upd ?_ (by decide)
      refine TpR_upd ?_ (by decide)
      refine TpR_upd ?_ (by decide)
      refine TpR_upd ?_ (by decide)
      refine TpR_upd ?_ (by decide)
      refine TpR_upd ?_ (by decide)
      refine TpR_upd ?_ (by decide)
      refine TpR_upd ?_ (by decide)
      refine TpR_upd ?_ (by decide)
      refine TpR_upd ?_ (by decide)
      refine TpR_upd ?_ (by decide)
      refine TpR_upd ?_ (by decide)
      refine TpR_upd ?_ (by decide)
      exact h
    · exact absurd q q2
  · rcases hm with ⟨q2, -⟩ | ⟨-, rfl, rfl, -, rfl⟩
    · exact absurd q2 q
    · exact ⟨rfl, h, rfl⟩

def HX (n t : Int32) (tp : Nat → Int32) (fn fp t2 fn2 fp2 tr2 r : Int32) : Prop := ∀ T : Nat → Int32, TpR tp T → (¬ (0 ≤ n.toInt ∧ n.toInt ≤ t.toInt) ∧ t2 = t ∧ fn2 = fn ∧ fp2 = fp ∧ tr2 = 2 ∧ r = -1) ∨ ((0 ≤ n.toInt ∧ n.toInt ≤ t.toInt) ∧ t2 = 0 ∧ ∀ F0 : Nat → Int32, (∀ i : Nat, i < 311 → F0 i = 0) → ∃ (k : Nat) (ρ : Rs ((Nat → Int32) × Int32)), TxR T n k F0 (rn T n 5 0) ρ ∧ ((∃ e : Int32 × Int32, ρ = .inl e ∧ fn2 = e.1 ∧ fp2 = e.2 ∧ (e.1 ≠ 0 → tr2 = 4 ∧ r = -1)) ∨ (∃ v : (Nat → Int32) × Int32, ρ = .inr v ∧ fn2 = 0 ∧ fp2 = 0 ∧ tr2 = 0 ∧ r = v.1 12)))
def HM (n t : Int32) (T : Nat → Int32) (ft pl t2 ft2 pl2 tr2 r : Int32) : Prop := (¬ (0 ≤ n.toInt ∧ n.toInt ≤ t.toInt) ∧ t2 = t ∧ ft2 = ft ∧ pl2 = pl ∧ tr2 = 2 ∧ r = -1) ∨ ((0 ≤ n.toInt ∧ n.toInt ≤ t.toInt) ∧ ∃ F0 : Nat → Int32, (∀ i : Nat, i < 311 → F0 i = 0) ∧ ∀ (k : Nat) (ρ : Rs ((Nat → Int32) × Int32)), TxR T n k F0 (rn T n 5 0) ρ → t2 = 0 ∧ ((∃ e : Int32 × Int32, ρ = .inl e ∧ ft2 = e.1 ∧ pl2 = e.2 ∧ tr2 = 4 ∧ r = -1) ∨ (∃ v : (Nat → Int32) × Int32, ρ = .inr v ∧ ft2 = 0 ∧ tr2 = 0 ∧ r = v.1 12)))
theorem HXM {n t fn fp t2 fn2 fp2 tr2 r pl t3 ft3 pl3 tr3 r3 : Int32} {tp T : Nat → Int32} (hx : HX n t tp fn fp t2 fn2 fp2 tr2 r) (hm : HM n t T fn pl t3 ft3 pl3 tr3 r3) (h : TpR tp T) : t2 = t3 ∧ fn2 = ft3 := by
  rcases hx T h with ⟨q, x1, x2, -⟩ | ⟨q, x1, x2⟩
  · rcases hm with ⟨-, y1, y2, -⟩ | ⟨q2, -⟩
    · exact ⟨x1.trans y1.symm, x2.trans y2.symm⟩
    · exact absurd q2 q
  · rcases hm with ⟨q2, -⟩ | ⟨-, F0, hF, hm⟩
    · exact absurd q q2
    · obtain ⟨k, ρ, hk, hx⟩ := x2 F0 hF
      obtain ⟨y1, hm⟩ := hm k ρ hk
      refine ⟨x1.trans y1.symm, ?_⟩
      rcases hx with ⟨e, e1, x2, -⟩ | ⟨v, e1, x2, -⟩
      · rcases hm with ⟨e', e2, y2, -⟩ | ⟨v', e2, -⟩
        · cases Sum.inl.inj (e1.symm.trans e2)
          exact x2.trans y2.symm
        · exact absurd (e1.symm.trans e2) (by intro q; cases q)
      · rcases hm with ⟨e', e2, -⟩ | ⟨v', e2, y2, -⟩
        · exact absurd (e1.symm.trans e2) (by intro q; cases q)
        · exact x2.trans y2.symm
theorem sc_places {xrf xmf xwf xpf yrf ymf ywf ypf xrg xmg xwg xpg : Nat → Int32} {ymd ytr yrn ymn ywn ypn xrk xmk xwk xpk xmd2 xtr2 : Int32} (h : R_s_copyFromX xrf xmf xwf xpf ymd ytr yrn yrf ymn ymf ywn ywf ypn ypf xrg xmg xwg xpg xrk xmk xwk xpk xmd2 xtr2) : xpk = ypn := by
  unfold R_s_copyFromX at h
  obtain ⟨_, _, -, _, _, -, _, _, -, _, _, h4, -, -, -, -, -, -, -, h, -⟩ := h
  exact h.trans h4.2
theorem hc_places {xrf xmf xwf xpf xhnf xhtf xhjf xhmf xhbf xhsf xhcf yrf ymf ywf ypf yhnf yhtf yhjf yhmf yhbf yhsf yhcf xrg xmg xwg xpg xhng xhtg xhjg xhmg xhbg xhsg xhcg : Nat → Int32} {ymd ytr yrn ymn ywn ypn yhnn yhtn yhjn yhmn yhbn yhsn yhcn xrk xmk xwk xpk xmd2 xtr2 xhnk xhtk xhjk xhmk xhbk xhsk xhck : Int32} (h : R_h_copyFromX xrf xmf xwf xpf xhnf xhtf xhjf xhmf xhbf xhsf xhcf ymd ytr yrn yrf ymn ymf ywn ywf ypn ypf yhnn yhnf yhtn yhtf yhjn yhjf yhmn yhmf yhbn yhbf yhsn yhsf yhcn yhcf xrg xmg xwg xpg xrk xmk xwk xpk xmd2 xtr2 xhng xhtg xhjg xhmg xhbg xhsg xhcg xhnk xhtk xhjk xhmk xhbk xhsk xhck) : xpk = ypn := by
  unfold R_h_copyFromX at h
  refine Exists.elim h ?_
  clear h
  intro xrg_1 h
  refine Exists.elim h ?_
  clear h
  intro xmg_2 h
  refine Exists.elim h ?_
  clear h
  intro xwg_3 h
  refine Exists.elim h ?_
  clear h
  intro xpg_4 h
  refine Exists.elim h ?_
  clear h
  intro xrk_5 h
  refine Exists.elim h ?_
  clear h
  intro xmk_6 h
  refine Exists.elim h ?_
  clear h
  intro xwk_7 h
  refine Exists.elim h ?_
  clear h
  intro xpk_8 h
  refine Exists.elim h ?_
  clear h
  intro xmd2_9 h
  refine Exists.elim h ?_
  clear h
  intro xtr2_10 h
  obtain ⟨hs, h⟩ := h
  obtain ⟨_, _, -, h⟩ := h
  obtain ⟨_, _, -, h⟩ := h
  obtain ⟨_, _, -, h⟩ := h
  obtain ⟨_, _, -, h⟩ := h
  obtain ⟨_, _, -, h⟩ := h
  obtain ⟨_, _, -, h⟩ := h
  obtain ⟨_, _, -, h⟩ := h
  exact (h.2.2.2.2.2.2.2.1).trans (sc_places hs)
theorem qc_house {p0 xtpd xfn xfp xen xkd xsta xpo xva xtk xta ndn qmd qtr qrn qmn qwn qpn qhnn qhtn qhjn qhmn qhbn qhsn qhcn ymd ytr yrn ymn ywn ypn yhnn yhtn yhjn yhmn yhbn yhsn yhcn zmd ztr zrn zmn zwn zpn kac kim tr2 xfn2 xfp2 xkd2 xsta2 xpo2 xva2 xtk2 xta2 xtpd2 xen2 ndnk qrk qmk qwk qpk qmd2 qtr2 qhnk qhtk qhjk qhmk qhbk qhsk qhck yrk ymk ywk ypk ymd2 ytr2 yhnk yhtk yhjk yhmk yhbk yhsk yhck zrk zmk zwk zpk zmd2 ztr2 kac2 kim2 r : Int32} {xle xle2 : Int64} {tpf ndf qrf qmf qwf qpf qhnf qhtf qhjf qhmf qhbf qhsf qhcf yrf ymf ywf ypf yhnf yhtf yhjf yhmf yhbf yhsf yhcf zrf zmf zwf zpf ndfg qrg qmg qwg qpg qhng qhtg qhjg qhmg qhbg qhsg qhcg yrg ymg ywg ypg yhng yhtg yhjg yhmg yhbg yhsg yhcg zrg zmg zwg zpg : Nat → Int32} {nmf nmfg : Nat → Int64} (ht : IV xtpd 0 900) (h : R_c_houseX p0 xtpd xfn xfp xen xkd xsta xpo xva xle xtk xta tpf nmf ndn ndf qmd qtr qrn qrf qmn qmf qwn qwf qpn qpf qhnn qhnf qhtn qhtf qhjn qhjf qhmn qhmf qhbn qhbf qhsn qhsf qhcn qhcf ymd ytr yrn yrf ymn ymf ywn ywf ypn ypf yhnn yhnf yhtn yhtf yhjn yhjf yhmn yhmf yhbn yhbf yhsn yhsf yhcn yhcf zmd ztr zrn zrf zmn zmf zwn zwf zpn zpf kac kim tr2 xfn2 xfp2 xkd2 xsta2 xpo2 xva2 xle2 xtk2 xta2 xtpd2 xen2 nmfg ndfg ndnk qrg qmg qwg qpg qrk qmk qwk qpk qmd2 qtr2 qhng qhtg qhjg qhmg qhbg qhsg qhcg qhnk qhtk qhjk qhmk qhbk qhsk qhck yrg ymg ywg ypg yrk ymk ywk ypk ymd2 ytr2 yhng yhtg yhjg yhmg yhbg yhsg yhcg yhnk yhtk yhjk yhmk yhbk yhsk yhck zrg zmg zwg zpg zrk zmk zwk zpk zmd2 ztr2 kac2 kim2 r) : HX p0 xtpd tpf xfn xfp xtpd2 xfn2 xfp2 tr2 r := by
  intro T hT
  unfold R_c_houseX at h
  have z0 : (0 : Int32).toInt = 0 := by decide
  rcases h with ⟨q, h⟩ | ⟨q, h⟩
  · obtain ⟨tr_, r_, ⟨h1, h2⟩, h⟩ := h
    have q1 := Int32.lt_iff_toInt_lt.mp q
    rw [z0] at q1
    exact Or.inl ⟨fun w => by omega, h.2.2.2.2.2.2.2.2.2.2.1, h.2.1, h.2.2.1, (h.1).trans h1, (h.2.2.2.2.2.2.2.2.2.2.2.2.2.2.2.2.2.2.2.2.2.2.2.2.2.2.2.2.2.2.2.2.2.2.2.2.2.2.2.2.2.2.2.2.2.2.2.2.2.2.2.2.2.2.2.2.2.2.2.2.2.2.2.2.2.2.2.2.2.2.2.2.2.2.2).trans h2⟩
  have q1 : 0 ≤ p0.toInt := Int.not_lt.mp (fun w => q (Int32.lt_iff_toInt_lt.mpr (by rw [z0]; exact w)))
  rcases h with ⟨q2, h⟩ | ⟨q2, h⟩
  · have q3 := Int32.le_iff_toInt_le.mp q2
    have hn : IV p0 0 900 := ⟨q1, by have := ht.2; omega⟩
    refine Exists.elim h ?_
    clear h
    intro xfn2_12 h
    refine Exists.elim h ?_
    clear h
    intro xfp2_13 h
    refine Exists.elim h ?_
    clear h
    intro xkd2_14 h
    refine Exists.elim h ?_
    clear h
    intro xsta2_15 h
    refine Exists.elim h ?_
    clear h
    intro xpo2_16 h
    refine Exists.elim h ?_
    clear h
    intro xva2_17 h
    refine Exists.elim h ?_
    clear h
    intro xle2_18 h
    refine Exists.elim h ?_
    clear h
    intro xtk2_19 h
    refine Exists.elim h ?_
    clear h
    intro xta2_20 h
    refine Exists.elim h ?_
    clear h
    intro nmfg_21 h
    refine Exists.elim h ?_
    clear h
    intro ndfg_22 h
    refine Exists.elim h ?_
    clear h
    intro ndnk_23 h
    refine Exists.elim h ?_
    clear h
    intro qrg_24 h
    refine Exists.elim h ?_
    clear h
    intro qmg_25 h
    refine Exists.elim h ?_
    clear h
    intro qwg_26 h
    refine Exists.elim h ?_
    clear h
    intro qpg_27 h
    refine Exists.elim h ?_
    clear h
    intro qrk_28 h
    refine Exists.elim h ?_
    clear h
    intro qmk_29 h
    refine Exists.elim h ?_
    clear h
    intro qwk_30 h
    refine Exists.elim h ?_
    clear h
    intro qpk_31 h
    refine Exists.elim h ?_
    clear h
    intro qmd2_32 h
    refine Exists.elim h ?_
    clear h
    intro qtr2_33 h
    refine Exists.elim h ?_
    clear h
    intro qhng_34 h
    refine Exists.elim h ?_
    clear h
    intro qhtg_35 h
    refine Exists.elim h ?_
    clear h
    intro qhjg_36 h
    refine Exists.elim h ?_
    clear h
    intro qhmg_37 h
    refine Exists.elim h ?_
    clear h
    intro qhbg_38 h
    refine Exists.elim h ?_
    clear h
    intro qhsg_39 h
    refine Exists.elim h ?_
    clear h
    intro qhcg_40 h
    refine Exists.elim h ?_
    clear h
    intro qhnk_41 h
    refine Exists.elim h ?_
    clear h
    intro qhtk_42 h
    refine Exists.elim h ?_
    clear h
    intro qhjk_43 h
    refine Exists.elim h ?_
    clear h
    intro qhmk_44 h
    refine Exists.elim h ?_
    clear h
    intro qhbk_45 h
    refine Exists.elim h ?_
    clear h
    intro qhsk_46 h
    refine Exists.elim h ?_
    clear h
    intro qhck_47 h
    obtain ⟨hrd, h⟩ := h
    rcases h with ⟨q4, h⟩ | ⟨q4, h⟩
    · skip
      refine Exists.elim h ?_
      clear h
      intro xrg_54 h
      refine Exists.elim h ?_
      clear h
      intro xmg_55 h
      refine Exists.elim h ?_
      clear h
      intro xwg_56 h
      refine Exists.elim h ?_
      clear h
      intro xpg_57 h
      refine Exists.elim h ?_
      clear h
      intro xrk_58 h
      refine Exists.elim h ?_
      clear h
      intro xmk_59 h
      refine Exists.elim h ?_
      clear h
      intro xwk_60 h
      refine Exists.elim h ?_
      clear h
      intro xpk_61 h
      refine Exists.elim h ?_
      clear h
      intro xmd2_62 h
      refine Exists.elim h ?_
      clear h
      intro xtr2_63 h
      refine Exists.elim h ?_
      clear h
      intro xhng_64 h
      refine Exists.elim h ?_
      clear h
      intro xhtg_65 h
      refine Exists.elim h ?_
      clear h
      intro xhjg_66 h
      refine Exists.elim h ?_
      clear h
      intro xhmg_67 h
      refine Exists.elim h ?_
      clear h
      intro xhbg_68 h
      refine Exists.elim h ?_
      clear h
      intro xhsg_69 h
      refine Exists.elim h ?_
      clear h
      intro xhcg_70 h
      refine Exists.elim h ?_
      clear h
      intro xhnk_71 h
      refine Exists.elim h ?_
      clear h
      intro xhtk_72 h
      refine Exists.elim h ?_
      clear h
      intro xhjk_73 h
      refine Exists.elim h ?_
      clear h
      intro xhmk_74 h
      refine Exists.elim h ?_
      clear h
      intro xhbk_75 h
      refine Exists.elim h ?_
      clear h
      intro xhsk_76 h
      refine Exists.elim h ?_
      clear h
      intro xhck_77 h
      obtain ⟨hhc, h⟩ := h
      refine Exists.elim h ?_
      clear h
      intro xrg_80 h
      refine Exists.elim h ?_
      clear h
      intro xmg_81 h
      refine Exists.elim h ?_
      clear h
      intro xwg_82 h
      refine Exists.elim h ?_
      clear h
      intro xpg_83 h
      refine Exists.elim h ?_
      clear h
      intro xrk_84 h
      refine Exists.elim h ?_
      clear h
      intro xmk_85 h
      refine Exists.elim h ?_
      clear h
      intro xwk_86 h
      refine Exists.elim h ?_
      clear h
      intro xpk_87 h
      refine Exists.elim h ?_
      clear h
      intro xmd2_88 h
      refine Exists.elim h ?_
      clear h
      intro xtr2_89 h
      obtain ⟨hsc, _, _, -, tr_, r_, ⟨h1, h2⟩, h⟩ := h
      refine Or.inr ⟨⟨q1, q3⟩, h.2.2.2.2.2.2.2.2.2.2.1, fun F0 hF => ?_⟩
      obtain ⟨k, ρ, hk, hx⟩ := qx_read hn hT hF hrd
      refine ⟨k, ρ, hk, ?_⟩
      cases ρ with
      | inl e => exact Or.inl ⟨e, rfl, (h.2.1).trans hx.1, (h.2.2.1).trans hx.2, fun ne => absurd (hx.1.symm.trans q4) ne⟩
      | inr v => exact Or.inr ⟨v, rfl, (h.2.1).trans hx.1, (h.2.2.1).trans hx.2.1, (h.1).trans h1, ((h.2.2.2.2.2.2.2.2.2.2.2.2.2.2.2.2.2.2.2.2.2.2.2.2.2.2.2.2.2.2.2.2.2.2.2.2.2.2.2.2.2.2.2.2.2.2.2.2.2.2.2.2.2.2.2.2.2.2.2.2.2.2.2.2.2.2.2.2.2.2.2.2.2.2.2).trans h2).trans (((sc_places hsc).trans (hc_places hhc)).trans ((hx.2.2).2.1.2.2.2.2.2.2.1))⟩
    · obtain ⟨tr_, r_, ⟨h1, h2⟩, h⟩ := h
      refine Or.inr ⟨⟨q1, q3⟩, h.2.2.2.2.2.2.2.2.2.2.1, fun F0 hF => ?_⟩
      obtain ⟨k, ρ, hk, hx⟩ := qx_read hn hT hF hrd
      refine ⟨k, ρ, hk, ?_⟩
      cases ρ with
      | inl e => exact Or.inl ⟨e, rfl, (h.2.1).trans hx.1, (h.2.2.1).trans hx.2, fun _ => ⟨(h.1).trans h1, (h.2.2.2.2.2.2.2.2.2.2.2.2.2.2.2.2.2.2.2.2.2.2.2.2.2.2.2.2.2.2.2.2.2.2.2.2.2.2.2.2.2.2.2.2.2.2.2.2.2.2.2.2.2.2.2.2.2.2.2.2.2.2.2.2.2.2.2.2.2.2.2.2.2.2.2).trans h2⟩⟩
      | inr v => exact absurd hx.1 q4
  · obtain ⟨tr_, r_, ⟨h1, h2⟩, h⟩ := h
    have q3 : ¬ p0.toInt ≤ xtpd.toInt := fun w => q2 (Int32.le_iff_toInt_le.mpr w)
    exact Or.inl ⟨fun w => q3 w.2, h.2.2.2.2.2.2.2.2.2.2.1, h.2.1, h.2.2.1, (h.1).trans h1, (h.2.2.2.2.2.2.2.2.2.2.2.2.2.2.2.2.2.2.2.2.2.2.2.2.2.2.2.2.2.2.2.2.2.2.2.2.2.2.2.2.2.2.2.2.2.2.2.2.2.2.2.2.2.2.2.2.2.2.2.2.2.2.2.2.2.2.2.2.2.2.2.2.2.2.2).trans h2⟩
theorem qm_houseM {p0 m_taped m_size m_at m_end m_token m_whole m_nameSize m_fault m_place m_failed m_hasHouse m_undos m_images m_at2 m_end2 m_failed2 m_fault2 m_hasHouse2 m_images2 m_nameSize2 m_place2 m_size2 m_taped2 m_thrown2 m_token2 m_trouble2 m_undos2 m_whole2 r : Int32} {d_tape d_letters d_r d_fresh d_st d_fresh2 d_letters2 d_r2 d_st2 : Nat → Int32} (hn : IV m_taped 0 900) (h : R_m_houseX p0 m_taped m_size m_at m_end m_token m_whole m_nameSize m_fault m_place m_failed m_hasHouse m_undos m_images d_tape d_letters d_r d_fresh d_st m_at2 m_end2 m_failed2 m_fault2 d_fresh2 m_hasHouse2 m_images2 d_letters2 m_nameSize2 m_place2 d_r2 m_size2 d_st2 m_taped2 m_thrown2 m_token2 m_trouble2 m_undos2 m_whole2 r) : HM p0 m_taped d_tape m_fault m_place m_taped2 m_fault2 m_place2 m_trouble2 r := by
  rcases qm_house hn h with ⟨q, -, h1, h2, h3, -, h4, h5, -⟩ | ⟨q, F0, hF, h⟩
  · exact Or.inl ⟨q, h3, h1, h2, h4, h5⟩
  · refine Or.inr ⟨q, F0, hF, fun k ρ hk => ?_⟩
    obtain ⟨-, h1, -, h⟩ := h k ρ hk
    refine ⟨h1, ?_⟩
    rcases h with ⟨e, e1, e2, e3, e4, e5, -⟩ | ⟨v, e1, e2, e3, e4, -⟩
    · exact Or.inl ⟨e, e1, e2, e3, e4, e5⟩
    · exact Or.inr ⟨v, e1, e2, e3, e4⟩

def NZ {α : Type} (x : Rs α) : Prop := ∀ e : Int32 × Int32, x = .inl e → e.1 ≠ 0
theorem NZ_l {α : Type} {k a : Int32} (h : k ≠ 0) : NZ (α := α) (.inl (k, a)) := fun e q => by cases q; exact h
theorem NZ_r {α : Type} (v : α) : NZ (α := α) (.inr v) := fun e q => by cases q
theorem NZ_ite {α : Type} {c : Prop} {d : Decidable c} {x y : Rs α} (hx : NZ x) (hy : NZ y) : NZ (@ite _ c d x y) := by
  by_cases q : c
  · rw [if_pos q]; exact hx
  · rw [if_neg q]; exact hy
theorem NZ_bnd {α β : Type} {x : Rs α} {f : α → Rs β} (hx : NZ x) (hf : ∀ v, NZ (f v)) : NZ (bnd x f) := by
  cases x with
  | inl e => intro e2 q; exact hx e2 (by rw [Sum.inl.inj q])
  | inr v => exact hf v
theorem NZ_labS {T : Nat → Int32} {n : Int32} {w : String} {a : Int32} : NZ (labS T n w a) := by
  unfold labS
  exact (NZ_ite (NZ_r _) (NZ_l (by decide)))
theorem NZ_numH {T : Nat → Int32} {n : Int32} {lo hi a : Int32} : NZ (numH T n lo hi a) := by
  unfold numH
  exact (NZ_ite (NZ_ite (NZ_l (by decide)) (NZ_ite (NZ_l (by decide)) (NZ_r _))) (NZ_l (by decide)))
theorem NZ_numS {T : Nat → Int32} {n : Int32} {lo hi a : Int32} : NZ (numS T n lo hi a) := by
  unfold numS
  exact (NZ_bnd (NZ_numH) (fun _ => (NZ_r _)))
theorem NZ_newS {F T : Nat → Int32} {n : Int32} {s : Nat} {a : Int32} : NZ (newS F T n s a) := by
  unfold newS
  exact (NZ_ite (NZ_ite (NZ_r _) (NZ_l (by decide))) (NZ_l (by decide)))
theorem NZ_oldS {F T : Nat → Int32} {n : Int32} {lo hi a : Int32} : NZ (oldS F T n lo hi a) := by
  unfold oldS
  exact (NZ_ite (NZ_ite (NZ_l (by decide)) (NZ_ite (NZ_l (by decide)) (NZ_r _))) (NZ_l (by decide)))
theorem NZ_aftS {T : Nat → Int32} {n : Int32} {w : String} {lo hi a : Int32} : NZ (aftS T n w lo hi a) := by
  unfold aftS
  exact (NZ_bnd (NZ_labS) (fun _ => NZ_numS))
theorem NZ_houseS {F T : Nat → Int32} {n : Int32} {a : Int32} : NZ (houseS F T n a) := by
  unfold houseS
  exact (NZ_ite (NZ_l (by decide)) (NZ_bnd (NZ_aftS) (fun _ => (NZ_bnd (NZ_aftS) (fun _ => (NZ_bnd (NZ_aftS) (fun _ => (NZ_bnd (NZ_aftS) (fun _ => (NZ_bnd (NZ_aftS) (fun _ => (NZ_bnd (NZ_aftS) (fun _ => (NZ_r _))))))))))))))
theorem NZ_reelS {F T : Nat → Int32} {n : Int32} {a : Int32} : NZ (reelS F T n a) := by
  unfold reelS
  exact (NZ_bnd (NZ_newS) (fun _ => (NZ_bnd (NZ_aftS) (fun _ => (NZ_bnd (NZ_aftS) (fun _ => (NZ_bnd (NZ_aftS) (fun _ => (NZ_r _)))))))))
theorem NZ_townS {F T : Nat → Int32} {n : Int32} {a : Int32} : NZ (townS F T n a) := by
  unfold townS
  exact (NZ_bnd (NZ_newS) (fun _ => (NZ_bnd (NZ_aftS) (fun _ => (NZ_r _)))))
theorem NZ_boysS {F T : Nat → Int32} {n : Int32} {a : Int32} : NZ (boysS F T n a) := by
  unfold boysS
  exact (NZ_bnd (NZ_numS) (fun _ => (NZ_bnd (NZ_aftS) (fun _ => (NZ_bnd (NZ_aftS) (fun _ => (NZ_r _)))))))
theorem NZ_seenS {F T : Nat → Int32} {n : Int32} {a : Int32} : NZ (seenS F T n a) := by
  unfold seenS
  exact (NZ_ite (NZ_l (by decide)) (NZ_ite (NZ_l (by decide)) (NZ_ite (NZ_l (by decide)) (NZ_bnd (NZ_numS) (fun _ => (NZ_bnd (NZ_aftS) (fun _ => (NZ_bnd (NZ_aftS) (fun _ => (NZ_r _))))))))))
theorem NZ_reelP {F T : Nat → Int32} {n : Int32} {a : Int32} : NZ (reelP F T n a) := by
  unfold reelP
  exact (NZ_bnd (NZ_oldS) (fun _ => (NZ_r _)))
theorem NZ_joinS {F T : Nat → Int32} {n : Int32} {a : Int32} : NZ (joinS F T n a) := by
  unfold joinS
  exact (NZ_bnd (NZ_reelP) (fun _ => (NZ_bnd (NZ_numS) (fun _ => (NZ_bnd (NZ_aftS) (fun _ => (NZ_r _)))))))
theorem NZ_scratchS {F T : Nat → Int32} {n : Int32} {a : Int32} : NZ (scratchS F T n a) := by
  unfold scratchS
  exact (NZ_bnd (NZ_reelP) (fun _ => (NZ_bnd (NZ_numS) (fun _ => (NZ_r _)))))
theorem NZ_opnS {F T : Nat → Int32} {n : Int32} {p a : Int32} : NZ (opnS F T n p a) := by
  unfold opnS
  exact (NZ_ite (NZ_l (by decide)) (NZ_ite (NZ_l (by decide)) (NZ_r _)))
theorem NZ_onceS {F T : Nat → Int32} {n : Int32} {p a : Int32} : NZ (onceS F T n p a) := by
  unfold onceS
  exact (NZ_ite (NZ_ite (NZ_l (by decide)) (NZ_r _)) (NZ_l (by decide)))
theorem NZ_markS {F T : Nat → Int32} {n : Int32} {a : Int32} : NZ (markS F T n a) := by
  unfold markS
  exact (NZ_bnd (NZ_reelP) (fun _ => (NZ_bnd (NZ_numS) (fun _ => (NZ_bnd (NZ_labS) (fun _ => (NZ_bnd (NZ_oldS) (fun _ => (NZ_ite (NZ_l (by decide)) (NZ_r _))))))))))
theorem NZ_weakS {F T : Nat → Int32} {n : Int32} {a : Int32} : NZ (weakS F T n a) := by
  unfold weakS
  exact (NZ_bnd (NZ_reelP) (fun _ => (NZ_bnd (NZ_numH) (fun _ => (NZ_ite (NZ_l (by decide)) (NZ_bnd (NZ_aftS) (fun _ => (NZ_r _))))))))
theorem NZ_showE {T : Nat → Int32} {n : Int32} {m : Nat} {F : Nat → Int32} {b : Int32} : NZ (showE T n m F b) := by
  unfold showE
  exact (NZ_ite (NZ_ite (NZ_l (by decide)) (NZ_ite (NZ_l (by decide)) (NZ_l (by decide)))) (NZ_r _))
theorem NZ_showG (T : Nat → Int32) (n : Int32) : ∀ (f m : Nat) (F : Nat → Int32) (a : Int32), 9 ≤ f + m → m ≤ 8 → NZ (showG T n f m F a) := by
  intro f
  induction f with
  | zero => intro m F a h1 h2; omega
  | succ f ih =>
    intro m F a h1 h2
    rw [showG]
    refine NZ_bnd NZ_oldS (fun r => ?_)
    by_cases q : m = 8
    · rw [if_pos q]; exact NZ_l (by decide)
    · rw [if_neg q]
      refine NZ_ite ?_ NZ_showE
      exact ih _ _ _ (by omega) (by omega)
theorem NZ_showS {F T : Nat → Int32} {n a : Int32} : NZ (showS F T n a) := NZ_showG T n 9 0 F a (by omega) (by omega)
theorem NZ_manE {F0 T : Nat → Int32} {n : Int32} {s : Nat} {kind town c a : Int32} : NZ (manE F0 T n s kind town c a) := by
  unfold manE
  exact (NZ_bnd (NZ_aftS) (fun _ => (NZ_r _)))
theorem NZ_manS {F T : Nat → Int32} {n : Int32} {a : Int32} : NZ (manS F T n a) := by
  unfold manS
  exact (NZ_bnd (NZ_newS) (fun _ => (NZ_ite (NZ_manE) (NZ_ite (NZ_manE) (NZ_ite (NZ_manE) (NZ_ite (NZ_bnd (NZ_oldS) (fun _ => (NZ_manE))) (NZ_l (by decide))))))))
theorem NZ_lineS {F T : Nat → Int32} {n : Int32} {a : Int32} : NZ (lineS F T n a) := by
  unfold lineS
  exact (NZ_ite (NZ_houseS) (NZ_ite (NZ_bnd (NZ_opnS) (fun _ => NZ_reelS)) (NZ_ite (NZ_bnd (NZ_opnS) (fun _ => NZ_townS)) (NZ_ite (NZ_bnd (NZ_opnS) (fun _ => NZ_markS)) (NZ_ite (NZ_bnd (NZ_opnS) (fun _ => NZ_joinS)) (NZ_ite (NZ_bnd (NZ_opnS) (fun _ => NZ_weakS)) (NZ_ite (NZ_bnd (NZ_opnS) (fun _ => NZ_manS)) (NZ_ite (NZ_bnd (NZ_onceS) (fun _ => NZ_showS)) (NZ_ite (NZ_bnd (NZ_onceS) (fun _ => NZ_boysS)) (NZ_ite (NZ_seenS) (NZ_ite (NZ_bnd (NZ_opnS) (fun _ => NZ_scratchS)) (NZ_l (by decide)))))))))))))
theorem NZ_text {T : Nat → Int32} {n : Int32} : ∀ (k : Nat) (F : Nat → Int32) (a : Int32) (e : Int32 × Int32), TxR T n k F a (.inl e) → e.1 ≠ 0 := by
  intro k
  induction k with
  | zero => intro F a e h; exact h.elim
  | succ k ih =>
    intro F a e h
    rw [TxR] at h
    rcases h.2 with ⟨e2, h1, h2⟩ | ⟨v, h1, h2⟩
    · cases h2
      exact NZ_lineS _ h1
    · rcases h2 with ⟨-, h2⟩ | ⟨-, ⟨-, h2⟩ | ⟨-, h2⟩⟩ | ⟨-, -, h2⟩
      · exact ih _ _ _ h2
      · cases h2; exact (show (6 : Int32) ≠ 0 from by decide)
      · cases h2
      · cases h2; exact (show (1 : Int32) ≠ 0 from by decide)
theorem HXM2 {n t fn fp t2 fn2 fp2 tr2 r ft pl t3 ft3 pl3 tr3 r3 : Int32} {tp T : Nat → Int32} (hx : HX n t tp fn fp t2 fn2 fp2 tr2 r) (hm : HM n t T ft pl t3 ft3 pl3 tr3 r3) (h : TpR tp T) : tr2 = tr3 ∧ r = r3 ∧ (tr2 = 4 → fp2 = pl3) := by
  rcases hx T h with ⟨q, x1, x2, x3, x4, x5⟩ | ⟨q, x1, x2⟩
  · rcases hm with ⟨-, y1, y2, y3, y4, y5⟩ | ⟨q2, -⟩
    · exact ⟨x4.trans y4.symm, x5.trans y5.symm, fun w => absurd (x4.symm.trans w) (by decide)⟩
    · exact absurd q2 q
  · rcases hm with ⟨q2, -⟩ | ⟨-, F0, hF, hm⟩
    · exact absurd q q2
    · obtain ⟨k, ρ, hk, hx⟩ := x2 F0 hF
      obtain ⟨y1, hm⟩ := hm k ρ hk
      rcases hx with ⟨e, e1, x2, x3, x4⟩ | ⟨v, e1, x2, x3, x4, x5⟩
      · rcases hm with ⟨e', e2, y2, y3, y4, y5⟩ | ⟨v', e2, -⟩
        · rw [e1] at hk
          obtain ⟨x5, x6⟩ := x4 (NZ_text _ _ _ _ hk)
          cases Sum.inl.inj (e1.symm.trans e2)
          exact ⟨x5.trans y4.symm, x6.trans y5.symm, fun _ => x3.trans y3.symm⟩
        · exact absurd (e1.symm.trans e2) (by intro q; cases q)
      · rcases hm with ⟨e', e2, -⟩ | ⟨v', e2, y2, y3, y4⟩
        · exact absurd (e1.symm.trans e2) (by intro q; cases q)
        · cases Sum.inr.inj (e1.symm.trans e2)
          exact ⟨x4.trans y3.symm, x5.trans y4.symm, fun w => absurd (x4.symm.trans w) (by decide)⟩
