set_option maxRecDepth 100000
set_option maxHeartbeats 4000000
set_option maxHeartbeats 4000000 in
set_option maxRecDepth 100000 in
theorem lx_threads {p : Program} {l : Launch} {e : Env} {R : Room} {s : State} {m : MethodId} {args : Array Value} {below : List Frame} {meth : Method} {c : Code} {Q : State → Prop} {A : Nat → Prop} {g : Gx} {cc : ByteArray} {nL n1 n2 pc : Nat} {own : String} {lv : List (Nat × Value)} {st : List Value} {xtpd : Int32} {tpf : Nat → Int32} {yhnf : Nat → Int32} {yhtn : Int32} {yhtf : Nat → Int32} {yhjn : Int32} {yhjf : Nat → Int32} {yhmn : Int32} {yhmf : Nat → Int32} {yhbn : Int32} {yhbf : Nat → Int32} {yhsn : Int32} {yhsf : Nat → Int32} {yhcn : Int32} {yhcf : Nat → Int32} {zrn : Int32} {zmn : Int32} {zwn : Int32} {zpn : Int32} {zmd : Int32} {ztr : Int32} {zrf : Nat → Int32} {zmf : Nat → Int32} {zwf : Nat → Int32} {zpf : Nat → Int32} {kac : Int32} {knx : Int32} {kim : Int32} {cf : Nat → SC} {h0 i : Nat} {wX wY : va_W} (a1 a2 : Int32) (X : Cx p s m meth c args cc nL own A g) (hx : XW g h0 xtpd tpf yhnf yhtn yhtf yhjn yhjf yhmn yhmf yhbn yhbf yhsn yhsf yhcn yhcf zrn zmn zwn zpn zmd ztr zrf zmf zwf zpf kac knx kim cf wX) (hd : decode cc pc = .ok (.invokevirtual i, 3)) (hm1 : Cond.methodLink own i yX10_threads ∈ wsL_law0) (hf : 4 + 1 ≤ R.frames) (hlo : 8 + (3 + 11) + 104 ≤ R.locals) (hst : (st.map fun v => v.category).sum ≤ 8) (h1 : n1 ≤ R.cells) (h2 : n2 ≤ R.slots)
    (kont : ∀ (r : Int32) (zrn_2 : Int32) (zmn_2 : Int32) (zwn_2 : Int32) (zpn_2 : Int32) (zmd_2 : Int32) (ztr_2 : Int32) (zrf_2 : Nat → Int32) (zmf_2 : Nat → Int32) (zwf_2 : Nat → Int32) (zpf_2 : Nat → Int32) (kac_2 : Int32) (knx_2 : Int32) (cf_2 : Nat → SC) (w2 : va_W), XW g h0 xtpd tpf yhnf yhtn yhtf yhjn yhjf yhmn yhmf yhbn yhbf yhsn yhsf yhcn yhcf zrn_2 zmn_2 zwn_2 zpn_2 zmd_2 ztr_2 zrf_2 zmf_2 zwf_2 zpf_2 kac_2 knx_2 kim cf_2 w2 → (∃ tr2 : Int32, R_c_threadsX a1 a2 zmd ztr zrn zrf zmn zmf zwn zwf zpn zpf kac knx cf tr2 zrf_2 zmf_2 zwf_2 zpf_2 zrn_2 zmn_2 zwn_2 zpn_2 zmd_2 ztr_2 kac_2 knx_2 cf_2 r) → Wk p l e R s m args below meth c Q A g nL n1 n2 (w2 ++ wY) lv (pc + 3) (.int r :: st)) : Wk p l e R s m args below meth c Q A g nL n1 n2 (wX ++ wY) lv pc ([.int a2, .int a1] ++ .ref h0 :: st) := by
  refine XW_el hx (fun xN xI0 xI1 xJ1 xG2 xI3 xF3 xI4 xF4 xI5 xF5 xK xI10 xF10 xI11 xF11 xI12 xF12 xI13 xF13 xG13 xJ14 as pl h_xen h_xsta h_xpo h_xtpd h_kac h_knx h_kim hms hPL hkaf hkgf hlen hpm => ?_)
  refine k_callVIP (n := 2) (As := [.int a1, .int a2]) (st := st) X (HAppend.hAppend (α := va_W) (β := va_W) (γ := va_W) [(cO10_rrrrrrrrri h0 (xN 0) (xN 1) (xN 2) (xN 3) (xN 4) (xN 5) (xN 6) (xN 7) (xN 8) (xI0 0)), ((xN 2), .inr (7, [.ref (xN 60), .ref (xN 61), .ref (xN 62), .ref (xN 63), .int zmd, .int ztr])), ((xN 60), .inr (8, [.int 8, .int 3, .ref (xN 64), .int zrn])), ((xN 64), .inl (g.2.2.1, 24, .inl zrf)), ((xN 61), .inr (8, [.int 12, .int 3, .ref (xN 65), .int zmn])), ((xN 65), .inl (g.2.2.1, 36, .inl zmf)), ((xN 62), .inr (8, [.int 6, .int 3, .ref (xN 66), .int zwn])), ((xN 66), .inl (g.2.2.1, 18, .inl zwf)), ((xN 63), .inr (8, [.int 8, .int 2, .ref (xN 67), .int zpn])), ((xN 67), .inl (g.2.2.1, 16, .inl zpf)), ((xN 3), .inr (4, [.ref (xN 68), .ref (xN 69), .int kac, .int knx, .int kim])), ((xN 68), .inl (g.2.2.2.2.1, 12, .inr (.inr (.inr (.inr (xK 0))))))] pl) (pkT (false :: true :: true :: true :: true :: true :: true :: true :: true :: true :: true :: true :: true :: true :: true :: true :: true :: true :: true :: true :: true :: true :: true :: true :: true :: true :: true :: true :: true :: true :: true :: true :: true :: true :: true :: true :: true :: true :: true :: true :: true :: true :: true :: true :: true :: true :: true :: true :: true :: true :: true :: true :: true :: true :: false :: false :: false :: false :: false :: false :: false :: false :: false :: false :: false :: []) (XC g h0 xtpd tpf yhnf yhtn yhtf yhjn yhjf yhmn yhmf yhbn yhbf yhsn yhsf yhcn yhcf zrn zmn zwn zpn zmd ztr zrf zmf zwf zpf kac knx kim xN xI0 xI1 xJ1 xG2 xI3 xF3 xI4 xF4 xI5 xF5 xK xI10 xF10 xI11 xF11 xI12 xF12 xI13 xF13 xG13 xJ14) ++ wY) (pm_XT hpm (pk_pick (false :: true :: true :: true :: true :: true :: true :: true :: true :: true :: true :: true :: true :: true :: true :: true :: true :: true :: true :: true :: true :: true :: true :: true :: true :: true :: true :: true :: true :: true :: true :: true :: true :: true :: true :: true :: true :: true :: true :: true :: true :: true :: true :: true :: true :: true :: true :: true :: true :: true :: true :: true :: true :: true :: false :: false :: false :: false :: false :: false :: false :: false :: false :: false :: false :: []) [(cO10_rrrrrrrrri h0 (xN 0) (xN 1) (xN 2) (xN 3) (xN 4) (xN 5) (xN 6) (xN 7) (xN 8) (xI0 0)), ((xN 2), .inr (7, [.ref (xN 60), .ref (xN 61), .ref (xN 62), .ref (xN 63), .int zmd, .int ztr])), ((xN 60), .inr (8, [.int 8, .int 3, .ref (xN 64), .int zrn])), ((xN 64), .inl (g.2.2.1, 24, .inl zrf)), ((xN 61), .inr (8, [.int 12, .int 3, .ref (xN 65), .int zmn])), ((xN 65), .inl (g.2.2.1, 36, .inl zmf)), ((xN 62), .inr (8, [.int 6, .int 3, .ref (xN 66), .int zwn])), ((xN 66), .inl (g.2.2.1, 18, .inl zwf)), ((xN 63), .inr (8, [.int 8, .int 2, .ref (xN 67), .int zpn])), ((xN 67), .inl (g.2.2.1, 16, .inl zpf)), ((xN 3), .inr (4, [.ref (xN 68), .ref (xN 69), .int kac, .int knx, .int kim])), ((xN 68), .inl (g.2.2.2.2.1, 12, .inr (.inr (.inr (.inr (xK 0))))))] rfl (List.Perm.refl _))) (c_threadsX l g h0 a1 a2 (.ref (xN 0)) (.ref (xN 1)) (xN 2) (xN 3) (.ref (xN 4)) (.ref (xN 5)) (.ref (xN 6)) (.ref (xN 7)) (.ref (xN 8)) (xI0 0) (xN 60) (xN 61) (xN 62) (xN 63) zmd ztr (xN 64) zrn zrf (xN 65) zmn zmf (xN 66) zwn zwf (xN 67) zpn zpf (xN 68) (xN 69) kac knx kim (xK 0) as pl cf (iv_w h_kac (zle_e rfl) (zle_e rfl)) (iv_w h_knx (zle_e rfl) (zle_e rfl)) hPL hkaf hlen) hd hm1 mw1446 mw1447 mw2 mw1448 rfl 10 rfl rfl 0 _ rfl yk_yX10_threads_2 rfl hf hlo hst h1 h2 ?_
  intro r w zq
  refine exE15 zq ?_
  clear zq
  intro tr2_n zrg_n zmg_n zwg_n zpg_n zrk_n zmk_n zwk_n zpk_n zmd2_n ztr2_n kac2_n knx2_n cf2_n pl2_n iv0 zq
  refine exA4 zq ?_
  clear zq
  intro iv1 iv2 hq0 hq1 zq
  subst zq
  refine k_perm _ pm_backT ?_
  exact kont r zrk_n zmk_n zwk_n zpk_n zmd2_n ztr2_n zrg_n zmg_n zwg_n zpg_n kac2_n knx2_n cf2_n _ (XW_mk xN (uu xI0 0 tr2_n) xI1 xJ1 xG2 xI3 xF3 xI4 xF4 xI5 xF5 xK xI10 xF10 xI11 xF11 xI12 xF12 xI13 xF13 xG13 xJ14 as pl2_n h_xen h_xsta h_xpo h_xtpd (iv_w iv0 (zle_e rfl) (zle_e rfl)) (iv_w iv1 (zle_e rfl) (zle_e rfl)) h_kim hms hq0 hkaf hkgf hlen (pk_backR (false :: true :: true :: true :: true :: true :: true :: true :: true :: true :: true :: true :: true :: true :: true :: true :: true :: true :: true :: true :: true :: true :: true :: true :: true :: true :: true :: true :: true :: true :: true :: true :: true :: true :: true :: true :: true :: true :: true :: true :: true :: true :: true :: true :: true :: true :: true :: true :: true :: true :: true :: true :: true :: true :: false :: false :: false :: false :: false :: false :: false :: false :: false :: false :: false :: []) [(cO10_rrrrrrrrri h0 (xN 0) (xN 1) (xN 2) (xN 3) (xN 4) (xN 5) (xN 6) (xN 7) (xN 8) tr2_n), ((xN 2), .inr (7, [.ref (xN 60), .ref (xN 61), .ref (xN 62), .ref (xN 63), .int zmd2_n, .int ztr2_n])), ((xN 60), .inr (8, [.int 8, .int 3, .ref (xN 64), .int zrk_n])), ((xN 64), .inl (g.2.2.1, 24, .inl zrg_n)), ((xN 61), .inr (8, [.int 12, .int 3, .ref (xN 65), .int zmk_n])), ((xN 65), .inl (g.2.2.1, 36, .inl zmg_n)), ((xN 62), .inr (8, [.int 6, .int 3, .ref (xN 66), .int zwk_n])), ((xN 66), .inl (g.2.2.1, 18, .inl zwg_n)), ((xN 63), .inr (8, [.int 8, .int 2, .ref (xN 67), .int zpk_n])), ((xN 67), .inl (g.2.2.1, 16, .inl zpg_n)), ((xN 3), .inr (4, [.ref (xN 68), .ref (xN 69), .int kac2_n, .int knx2_n, .int kim])), ((xN 68), .inl (g.2.2.2.2.1, 12, .inr (.inr (.inr (.inr (xK 0))))))] rfl rfl (List.Perm.refl _))) ⟨_, hq1⟩

set_option maxHeartbeats 4000000 in
set_option maxRecDepth 100000 in
theorem lm_threads {p : Program} {l : Launch} {e : Env} {R : Room} {s : State} {m : MethodId} {args : Array Value} {below : List Frame} {meth : Method} {c : Code} {Q : State → Prop} {A : Nat → Prop} {g : Gx} {cc : ByteArray} {nL n1 n2 pc : Nat} {own : String} {lv : List (Nat × Value)} {st : List Value} {m_taped : Int32} {d_tape : Nat → Int32} {d_r : Nat → Int32} {d_st : Nat → Int32} {d_undone : Nat → Int32} {d_kept : Nat → Int32} {m_undos : Int32} {m_images : Int32} {m_hasHouse : Int32} {mo i : Nat} {wX wM wO : va_W} (a1 a2 : Int32) (X : Cx p s m meth c args cc nL own A g) (hx : MW g mo m_taped d_tape d_r d_st d_undone d_kept m_undos m_images m_hasHouse wM) (hd : decode cc pc = .ok (.invokevirtual i, 3)) (hm1 : Cond.methodLink own i yX11_threads ∈ wsL_law0) (hf : 2 + 1 ≤ R.frames) (hlo : 8 + (3 + 11) + 46 ≤ R.locals) (hst : (st.map fun v => v.category).sum ≤ 8) (h1 : n1 ≤ R.cells) (h2 : n2 ≤ R.slots)
    (kont : ∀ (r : Int32) (d_st_2 : Nat → Int32) (d_undone_2 : Nat → Int32) (m_undos_2 : Int32) (w2 : va_W), MW g mo m_taped d_tape d_r d_st_2 d_undone_2 d_kept m_undos_2 m_images m_hasHouse w2 → (∃ m_thrown2 : Int32, ∃ m_trouble2 : Int32, R_m_threadsX a1 a2 m_hasHouse m_undos d_r d_st d_undone d_st_2 m_thrown2 m_trouble2 d_undone_2 m_undos_2 r) → Wk p l e R s m args below meth c Q A g nL n1 n2 (wX ++ (w2 ++ wO)) lv (pc + 3) (.int r :: st)) : Wk p l e R s m args below meth c Q A g nL n1 n2 (wX ++ (wM ++ wO)) lv pc ([.int a2, .int a1] ++ .ref mo :: st) := by
  refine MW_el hx (fun mI mN mFletters mFfresh mFfrom mFbegin mFmotor mFchange mFstartFrame mFchangeFrame mFlostAt mFblackAt mFslips mFleftArc mFdied mFarcs mFthere mFbackAt mFsorted mFparts h_m_size h_m_end h_m_nameSize h_m_failed h_m_hasHouse h_m_undos h_m_images h_m_taped hRr hRf hTr hpm => ?_)
  refine k_callVIP (n := 2) (As := [.int a1, .int a2]) (st := st) X [(cO11_i1r1i10r1i2r5i2r12i3r4i2 mo (mI 0) (mN 0) m_taped (mI 1) (mI 2) (mI 3) (mI 4) (mI 5) (mI 6) (mI 7) (mI 8) (mI 9) (mN 1) (mI 10) m_hasHouse (mN 2) (mN 3) (mN 4) (mN 5) (mN 6) m_undos m_images (mN 7) (mN 8) (mN 9) (mN 10) (mN 11) (mN 12) (mN 13) (mN 14) (mN 15) (mN 16) (mN 17) (mN 18) (mI 11) (mI 12) (mI 13) (mN 19) (mN 20) (mN 21) (mN 22) (mI 14) (mI 15)), ((mN 2), .inl (g.2.2.1, 311, .inl d_r)), ((mN 4), .inl (g.2.2.1, 44, .inl d_st)), ((mN 5), .inl (g.2.2.1, 528, .inl d_undone))] (pkT [false, true, true, false, true, false, false] (MC g mo m_taped d_tape d_r d_st d_undone d_kept m_undos m_images m_hasHouse mI mN mFletters mFfresh mFfrom mFbegin mFmotor mFchange mFstartFrame mFchangeFrame mFlostAt mFblackAt mFslips mFleftArc mFdied mFarcs mFthere mFbackAt mFsorted mFparts) ++ (wX ++ wO)) (pm_M hpm (pk_pick [false, true, true, false, true, false, false] [(cO11_i1r1i10r1i2r5i2r12i3r4i2 mo (mI 0) (mN 0) m_taped (mI 1) (mI 2) (mI 3) (mI 4) (mI 5) (mI 6) (mI 7) (mI 8) (mI 9) (mN 1) (mI 10) m_hasHouse (mN 2) (mN 3) (mN 4) (mN 5) (mN 6) m_undos m_images (mN 7) (mN 8) (mN 9) (mN 10) (mN 11) (mN 12) (mN 13) (mN 14) (mN 15) (mN 16) (mN 17) (mN 18) (mI 11) (mI 12) (mI 13) (mN 19) (mN 20) (mN 21) (mN 22) (mI 14) (mI 15)), ((mN 2), .inl (g.2.2.1, 311, .inl d_r)), ((mN 4), .inl (g.2.2.1, 44, .inl d_st)), ((mN 5), .inl (g.2.2.1, 528, .inl d_undone))] rfl (List.Perm.refl _))) (m_threadsX l g mo a1 a2 (mI 0) (mN 0) m_taped (mI 1) (mI 2) (mI 3) (mI 4) (mI 5) (mI 6) (mI 7) (mI 8) (mI 9) (mN 1) (mI 10) m_hasHouse (mN 2) (mN 3) (mN 4) (mN 5) (mN 6) m_undos m_images (mN 7) (mN 8) (mN 9) (mN 10) (mN 11) (mN 12) (mN 13) (mN 14) (mN 15) (mN 16) (mN 17) (mN 18) (mI 11) (mI 12) (mI 13) (mN 19) (mN 20) (mN 21) (mN 22) (mI 14) (mI 15) d_r d_st d_undone (iv_w h_m_hasHouse (zle_e rfl) (zle_e rfl)) (iv_w h_m_undos (zle_e rfl) (zle_e rfl)) hRr) hd hm1 mw1468 mw1469 mw5 mw1470 rfl 11 rfl rfl 0 _ rfl yk_yX11_threads_2 rfl hf hlo hst h1 h2 ?_
  rintro r w ⟨d_st2_n, m_thrown2_n, m_trouble2_n, d_undone2_n, m_undos2_n, iv0, iv1, hq0, rfl⟩
  refine k_perm _ pm_backM ?_
  exact kont r d_st2_n d_undone2_n m_undos2_n _ (MW_mk (uu (uu mI 0 m_thrown2_n) 9 m_trouble2_n) mN mFletters mFfresh mFfrom mFbegin mFmotor mFchange mFstartFrame mFchangeFrame mFlostAt mFblackAt mFslips mFleftArc mFdied mFarcs mFthere mFbackAt mFsorted mFparts h_m_size h_m_end h_m_nameSize h_m_failed h_m_hasHouse (iv_w iv0 (zle_e rfl) (zle_e rfl)) h_m_images h_m_taped hRr hRf hTr (pk_back [false, true, true, false, true, false, false] [(cO11_i1r1i10r1i2r5i2r12i3r4i2 mo m_thrown2_n (mN 0) m_taped (mI 1) (mI 2) (mI 3) (mI 4) (mI 5) (mI 6) (mI 7) (mI 8) m_trouble2_n (mN 1) (mI 10) m_hasHouse (mN 2) (mN 3) (mN 4) (mN 5) (mN 6) m_undos2_n m_images (mN 7) (mN 8) (mN 9) (mN 10) (mN 11) (mN 12) (mN 13) (mN 14) (mN 15) (mN 16) (mN 17) (mN 18) (mI 11) (mI 12) (mI 13) (mN 19) (mN 20) (mN 21) (mN 22) (mI 14) (mI 15)), ((mN 2), .inl (g.2.2.1, 311, .inl d_r)), ((mN 4), .inl (g.2.2.1, 44, .inl d_st2_n)), ((mN 5), .inl (g.2.2.1, 528, .inl d_undone2_n))] rfl rfl (List.Perm.refl _))) ⟨_, _, hq0⟩

set_option maxHeartbeats 4000000 in
set_option maxRecDepth 100000 in
theorem lx_trim {p : Program} {l : Launch} {e : Env} {R : Room} {s : State} {m : MethodId} {args : Array Value} {below : List Frame} {meth : Method} {c : Code} {Q : State → Prop} {A : Nat → Prop} {g : Gx} {cc : ByteArray} {nL n1 n2 pc : Nat} {own : String} {lv : List (Nat × Value)} {st : List Value} {xtpd : Int32} {tpf : Nat → Int32} {yhnf : Nat → Int32} {yhtn : Int32} {yhtf : Nat → Int32} {yhjn : Int32} {yhjf : Nat → Int32} {yhmn : Int32} {yhmf : Nat → Int32} {yhbn : Int32} {yhbf : Nat → Int32} {yhsn : Int32} {yhsf : Nat → Int32} {yhcn : Int32} {yhcf : Nat → Int32} {zrn : Int32} {zmn : Int32} {zwn : Int32} {zpn : Int32} {zmd : Int32} {ztr : Int32} {zrf : Nat → Int32} {zmf : Nat → Int32} {zwf : Nat → Int32} {zpf : Nat → Int32} {kac : Int32} {knx : Int32} {kim : Int32} {cf : Nat → SC} {h0 i : Nat} {wX wY : va_W} (a1 a2 : Int32) (X : Cx p s m meth c args cc nL own A g) (hx : XW g h0 xtpd tpf yhnf yhtn yhtf yhjn yhjf yhmn yhmf yhbn yhbf yhsn yhsf yhcn yhcf zrn zmn zwn zpn zmd ztr zrf zmf zwf zpf kac knx kim cf wX) (hd : decode cc pc = .ok (.invokevirtual i, 3)) (hm1 : Cond.methodLink own i yX10_trim ∈ wsL_law0) (hf : 4 + 1 ≤ R.frames) (hlo : 8 + (3 + 11) + 104 ≤ R.locals) (hst : (st.map fun v => v.category).sum ≤ 8) (h1 : n1 ≤ R.cells) (h2 : n2 ≤ R.slots)
    (kont : ∀ (r : Int32) (zrn_2 : Int32) (zmn_2 : Int32) (zwn_2 : Int32) (zpn_2 : Int32) (zmd_2 : Int32) (ztr_2 : Int32) (zrf_2 : Nat → Int32) (zmf_2 : Nat → Int32) (zwf_2 : Nat → Int32) (zpf_2 : Nat → Int32) (kac_2 : Int32) (knx_2 : Int32) (cf_2 : Nat → SC) (w2 : va_W), XW g h0 xtpd tpf yhnf yhtn yhtf yhjn yhjf yhmn yhmf yhbn yhbf yhsn yhsf yhcn yhcf zrn_2 zmn_2 zwn_2 zpn_2 zmd_2 ztr_2 zrf_2 zmf_2 zwf_2 zpf_2 kac_2 knx_2 kim cf_2 w2 → (∃ tr2 : Int32, R_c_trimX a1 a2 zmd ztr zrn zrf zmn zmf zwn zwf zpn zpf kac knx cf tr2 zrf_2 zmf_2 zwf_2 zpf_2 zrn_2 zmn_2 zwn_2 zpn_2 zmd_2 ztr_2 kac_2 knx_2 cf_2 r) → Wk p l e R s m args below meth c Q A g nL n1 n2 (w2 ++ wY) lv (pc + 3) (.int r :: st)) : Wk p l e R s m args below meth c Q A g nL n1 n2 (wX ++ wY) lv pc ([.int a2, .int a1] ++ .ref h0 :: st) := by
  refine XW_el hx (fun xN xI0 xI1 xJ1 xG2 xI3 xF3 xI4 xF4 xI5 xF5 xK xI10 xF10 xI11 xF11 xI12 xF12 xI13 xF13 xG13 xJ14 as pl h_xen h_xsta h_xpo h_xtpd h_kac h_knx h_kim hms hPL hkaf hkgf hlen hpm => ?_)
  refine k_callVIP (n := 2) (As := [.int a1, .int a2]) (st := st) X (HAppend.hAppend (α := va_W) (β := va_W) (γ := va_W) [(cO10_rrrrrrrrri h0 (xN 0) (xN 1) (xN 2) (xN 3) (xN 4) (xN 5) (xN 6) (xN 7) (xN 8) (xI0 0)), ((xN 2), .inr (7, [.ref (xN 60), .ref (xN 61), .ref (xN 62), .ref (xN 63), .int zmd, .int ztr])), ((xN 60), .inr (8, [.int 8, .int 3, .ref (xN 64), .int zrn])), ((xN 64), .inl (g.2.2.1, 24, .inl zrf)), ((xN 61), .inr (8, [.int 12, .int 3, .ref (xN 65), .int zmn])), ((xN 65), .inl (g.2.2.1, 36, .inl zmf)), ((xN 62), .inr (8, [.int 6, .int 3, .ref (xN 66), .int zwn])), ((xN 66), .inl (g.2.2.1, 18, .inl zwf)), ((xN 63), .inr (8, [.int 8, .int 2, .ref (xN 67), .int zpn])), ((xN 67), .inl (g.2.2.1, 16, .inl zpf)), ((xN 3), .inr (4, [.ref (xN 68), .ref (xN 69), .int kac, .int knx, .int kim])), ((xN 68), .inl (g.2.2.2.2.1, 12, .inr (.inr (.inr (.inr (xK 0))))))] pl) (pkT (false :: true :: true :: true :: true :: true :: true :: true :: true :: true :: true :: true :: true :: true :: true :: true :: true :: true :: true :: true :: true :: true :: true :: true :: true :: true :: true :: true :: true :: true :: true :: true :: true :: true :: true :: true :: true :: true :: true :: true :: true :: true :: true :: true :: true :: true :: true :: true :: true :: true :: true :: true :: true :: true :: false :: false :: false :: false :: false :: false :: false :: false :: false :: false :: false :: []) (XC g h0 xtpd tpf yhnf yhtn yhtf yhjn yhjf yhmn yhmf yhbn yhbf yhsn yhsf yhcn yhcf zrn zmn zwn zpn zmd ztr zrf zmf zwf zpf kac knx kim xN xI0 xI1 xJ1 xG2 xI3 xF3 xI4 xF4 xI5 xF5 xK xI10 xF10 xI11 xF11 xI12 xF12 xI13 xF13 xG13 xJ14) ++ wY) (pm_XT hpm (pk_pick (false :: true :: true :: true :: true :: true :: true :: true :: true :: true :: true :: true :: true :: true :: true :: true :: true :: true :: true :: true :: true :: true :: true :: true :: true :: true :: true :: true :: true :: true :: true :: true :: true :: true :: true :: true :: true :: true :: true :: true :: true :: true :: true :: true :: true :: true :: true :: true :: true :: true :: true :: true :: true :: true :: false :: false :: false :: false :: false :: false :: false :: false :: false :: false :: false :: []) [(cO10_rrrrrrrrri h0 (xN 0) (xN 1) (xN 2) (xN 3) (xN 4) (xN 5) (xN 6) (xN 7) (xN 8) (xI0 0)), ((xN 2), .inr (7, [.ref (xN 60), .ref (xN 61), .ref (xN 62), .ref (xN 63), .int zmd, .int ztr])), ((xN 60), .inr (8, [.int 8, .int 3, .ref (xN 64), .int zrn])), ((xN 64), .inl (g.2.2.1, 24, .inl zrf)), ((xN 61), .inr (8, [.int 12, .int 3, .ref (xN 65), .int zmn])), ((xN 65), .inl (g.2.2.1, 36, .inl zmf)), ((xN 62), .inr (8, [.int 6, .int 3, .ref (xN 66), .int zwn])), ((xN 66), .inl (g.2.2.1, 18, .inl zwf)), ((xN 63), .inr (8, [.int 8, .int 2, .ref (xN 67), .int zpn])), ((xN 67), .inl (g.2.2.1, 16, .inl zpf)), ((xN 3), .inr (4, [.ref (xN 68), .ref (xN 69), .int kac, .int knx, .int kim])), ((xN 68), .inl (g.2.2.2.2.1, 12, .inr (.inr (.inr (.inr (xK 0))))))] rfl (List.Perm.refl _))) (c_trimX l g h0 a1 a2 (.ref (xN 0)) (.ref (xN 1)) (xN 2) (xN 3) (.ref (xN 4)) (.ref (xN 5)) (.ref (xN 6)) (.ref (xN 7)) (.ref (xN 8)) (xI0 0) (xN 60) (xN 61) (xN 62) (xN 63) zmd ztr (xN 64) zrn zrf (xN 65) zmn zmf (xN 66) zwn zwf (xN 67) zpn zpf (xN 68) (xN 69) kac knx kim (xK 0) as pl cf (iv_w h_kac (zle_e rfl) (zle_e rfl)) (iv_w h_knx (zle_e rfl) (zle_e rfl)) hPL hkaf hlen) hd hm1 mw1480 mw1481 mw2 mw1482 rfl 10 rfl rfl 0 _ rfl yk_yX10_trim_2 rfl hf hlo hst h1 h2 ?_
  intro r w zq
  refine exE15 zq ?_
  clear zq
  intro tr2_n zrg_n zmg_n zwg_n zpg_n zrk_n zmk_n zwk_n zpk_n zmd2_n ztr2_n kac2_n knx2_n cf2_n pl2_n iv0 zq
  refine exA4 zq ?_
  clear zq
  intro iv1 iv2 hq0 hq1 zq
  subst zq
  refine k_perm _ pm_backT ?_
  exact kont r zrk_n zmk_n zwk_n zpk_n zmd2_n ztr2_n zrg_n zmg_n zwg_n zpg_n kac2_n knx2_n cf2_n _ (XW_mk xN (uu xI0 0 tr2_n) xI1 xJ1 xG2 xI3 xF3 xI4 xF4 xI5 xF5 xK xI10 xF10 xI11 xF11 xI12 xF12 xI13 xF13 xG13 xJ14 as pl2_n h_xen h_xsta h_xpo h_xtpd (iv_w iv0 (zle_e rfl) (zle_e rfl)) (iv_w iv1 (zle_e rfl) (zle_e rfl)) h_kim hms hq0 hkaf hkgf hlen (pk_backR (false :: true :: true :: true :: true :: true :: true :: true :: true :: true :: true :: true :: true :: true :: true :: true :: true :: true :: true :: true :: true :: true :: true :: true :: true :: true :: true :: true :: true :: true :: true :: true :: true :: true :: true :: true :: true :: true :: true :: true :: true :: true :: true :: true :: true :: true :: true :: true :: true :: true :: true :: true :: true :: true :: false :: false :: false :: false :: false :: false :: false :: false :: false :: false :: false :: []) [(cO10_rrrrrrrrri h0 (xN 0) (xN 1) (xN 2) (xN 3) (xN 4) (xN 5) (xN 6) (xN 7) (xN 8) tr2_n), ((xN 2), .inr (7, [.ref (xN 60), .ref (xN 61), .ref (xN 62), .ref (xN 63), .int zmd2_n, .int ztr2_n])), ((xN 60), .inr (8, [.int 8, .int 3, .ref (xN 64), .int zrk_n])), ((xN 64), .inl (g.2.2.1, 24, .inl zrg_n)), ((xN 61), .inr (8, [.int 12, .int 3, .ref (xN 65), .int zmk_n])), ((xN 65), .inl (g.2.2.1, 36, .inl zmg_n)), ((xN 62), .inr (8, [.int 6, .int 3, .ref (xN 66), .int zwk_n])), ((xN 66), .inl (g.2.2.1, 18, .inl zwg_n)), ((xN 63), .inr (8, [.int 8, .int 2, .ref (xN 67), .int zpk_n])), ((xN 67), .inl (g.2.2.1, 16, .inl zpg_n)), ((xN 3), .inr (4, [.ref (xN 68), .ref (xN 69), .int kac2_n, .int knx2_n, .int kim])), ((xN 68), .inl (g.2.2.2.2.1, 12, .inr (.inr (.inr (.inr (xK 0))))))] rfl rfl (List.Perm.refl _))) ⟨_, hq1⟩

set_option maxHeartbeats 4000000 in
set_option maxRecDepth 100000 in
theorem lm_trim {p : Program} {l : Launch} {e : Env} {R : Room} {s : State} {m : MethodId} {args : Array Value} {below : List Frame} {meth : Method} {c : Code} {Q : State → Prop} {A : Nat → Prop} {g : Gx} {cc : ByteArray} {nL n1 n2 pc : Nat} {own : String} {lv : List (Nat × Value)} {st : List Value} {m_taped : Int32} {d_tape : Nat → Int32} {d_r : Nat → Int32} {d_st : Nat → Int32} {d_undone : Nat → Int32} {d_kept : Nat → Int32} {m_undos : Int32} {m_images : Int32} {m_hasHouse : Int32} {mo i : Nat} {wX wM wO : va_W} (a1 a2 : Int32) (X : Cx p s m meth c args cc nL own A g) (hx : MW g mo m_taped d_tape d_r d_st d_undone d_kept m_undos m_images m_hasHouse wM) (hd : decode cc pc = .ok (.invokevirtual i, 3)) (hm1 : Cond.methodLink own i yX11_trim ∈ wsL_law0) (hf : 2 + 1 ≤ R.frames) (hlo : 8 + (3 + 11) + 46 ≤ R.locals) (hst : (st.map fun v => v.category).sum ≤ 8) (h1 : n1 ≤ R.cells) (h2 : n2 ≤ R.slots)
    (kont : ∀ (r : Int32) (d_st_2 : Nat → Int32) (d_undone_2 : Nat → Int32) (m_undos_2 : Int32) (w2 : va_W), MW g mo m_taped d_tape d_r d_st_2 d_undone_2 d_kept m_undos_2 m_images m_hasHouse w2 → (∃ m_thrown2 : Int32, ∃ m_trouble2 : Int32, R_m_trimX a1 a2 m_hasHouse m_undos d_r d_st d_undone d_st_2 m_thrown2 m_trouble2 d_undone_2 m_undos_2 r) → Wk p l e R s m args below meth c Q A g nL n1 n2 (wX ++ (w2 ++ wO)) lv (pc + 3) (.int r :: st)) : Wk p l e R s m args below meth c Q A g nL n1 n2 (wX ++ (wM ++ wO)) lv pc ([.int a2, .int a1] ++ .ref mo :: st) := by
  refine MW_el hx (fun mI mN mFletters mFfresh mFfrom mFbegin mFmotor mFchange mFstartFrame mFchangeFrame mFlostAt mFblackAt mFslips mFleftArc mFdied mFarcs mFthere mFbackAt mFsorted mFparts h_m_size h_m_end h_m_nameSize h_m_failed h_m_hasHouse h_m_undos h_m_images h_m_taped hRr hRf hTr hpm => ?_)
  refine k_callVIP (n := 2) (As := [.int a1, .int a2]) (st := st) X [(cO11_i1r1i10r1i2r5i2r12i3r4i2 mo (mI 0) (mN 0) m_taped (mI 1) (mI 2) (mI 3) (mI 4) (mI 5) (mI 6) (mI 7) (mI 8) (mI 9) (mN 1) (mI 10) m_hasHouse (mN 2) (mN 3) (mN 4) (mN 5) (mN 6) m_undos m_images (mN 7) (mN 8) (mN 9) (mN 10) (mN 11) (mN 12) (mN 13) (mN 14) (mN 15) (mN 16) (mN 17) (mN 18) (mI 11) (mI 12) (mI 13) (mN 19) (mN 20) (mN 21) (mN 22) (mI 14) (mI 15)), ((mN 2), .inl (g.2.2.1, 311, .inl d_r)), ((mN 4), .inl (g.2.2.1, 44, .inl d_st)), ((mN 5), .inl (g.2.2.1, 528, .inl d_undone))] (pkT [false, true, true, false, true, false, false] (MC g mo m_taped d_tape d_r d_st d_undone d_kept m_undos m_images m_hasHouse mI mN mFletters mFfresh mFfrom mFbegin mFmotor mFchange mFstartFrame mFchangeFrame mFlostAt mFblackAt mFslips mFleftArc mFdied mFarcs mFthere mFbackAt mFsorted mFparts) ++ (wX ++ wO)) (pm_M hpm (pk_pick [false, true, true, false, true, false, false] [(cO11_i1r1i10r1i2r5i2r12i3r4i2 mo (mI 0) (mN 0) m_taped (mI 1) (mI 2) (mI 3) (mI 4) (mI 5) (mI 6) (mI 7) (mI 8) (mI 9) (mN 1) (mI 10) m_hasHouse (mN 2) (mN 3) (mN 4) (mN 5) (mN 6) m_undos m_images (mN 7) (mN 8) (mN 9) (mN 10) (mN 11) (mN 12) (mN 13) (mN 14) (mN 15) (mN 16) (mN 17) (mN 18) (mI 11) (mI 12) (mI 13) (mN 19) (mN 20) (mN 21) (mN 22) (mI 14) (mI 15)), ((mN 2), .inl (g.2.2.1, 311, .inl d_r)), ((mN 4), .inl (g.2.2.1, 44, .inl d_st)), ((mN 5), .inl (g.2.2.1, 528, .inl d_undone))] rfl (List.Perm.refl _))) (m_trimX l g mo a1 a2 (mI 0) (mN 0) m_taped (mI 1) (mI 2) (mI 3) (mI 4) (mI 5) (mI 6) (mI 7) (mI 8) (mI 9) (mN 1) (mI 10) m_hasHouse (mN 2) (mN 3) (mN 4) (mN 5) (mN 6) m_undos m_images (mN 7) (mN 8) (mN 9) (mN 10) (mN 11) (mN 12) (mN 13) (mN 14) (mN 15) (mN 16) (mN 17) (mN 18) (mI 11) (mI 12) (mI 13) (mN 19) (mN 20) (mN 21) (mN 22) (mI 14) (mI 15) d_r d_st d_undone (iv_w h_m_hasHouse (zle_e rfl) (zle_e rfl)) (iv_w h_m_undos (zle_e rfl) (zle_e rfl)) hRr) hd hm1 mw1484 mw1485 mw5 mw1486 rfl 11 rfl rfl 0 _ rfl yk_yX11_trim_2 rfl hf hlo hst h1 h2 ?_
  rintro r w ⟨d_st2_n, m_thrown2_n, m_trouble2_n, d_undone2_n, m_undos2_n, iv0, iv1, hq0, rfl⟩
  refine k_perm _ pm_backM ?_
  exact kont r d_st2_n d_undone2_n m_undos2_n _ (MW_mk (uu (uu mI 0 m_thrown2_n) 9 m_trouble2_n) mN mFletters mFfresh mFfrom mFbegin mFmotor mFchange mFstartFrame mFchangeFrame mFlostAt mFblackAt mFslips mFleftArc mFdied mFarcs mFthere mFbackAt mFsorted mFparts h_m_size h_m_end h_m_nameSize h_m_failed h_m_hasHouse (iv_w iv0 (zle_e rfl) (zle_e rfl)) h_m_images h_m_taped hRr hRf hTr (pk_back [false, true, true, false, true, false, false] [(cO11_i1r1i10r1i2r5i2r12i3r4i2 mo m_thrown2_n (mN 0) m_taped (mI 1) (mI 2) (mI 3) (mI 4) (mI 5) (mI 6) (mI 7) (mI 8) m_trouble2_n (mN 1) (mI 10) m_hasHouse (mN 2) (mN 3) (mN 4) (mN 5) (mN 6) m_undos2_n m_images (mN 7) (mN 8) (mN 9) (mN 10) (mN 11) (mN 12) (mN 13) (mN 14) (mN 15) (mN 16) (mN 17) (mN 18) (mI 11) (mI 12) (mI 13) (mN 19) (mN 20) (mN 21) (mN 22) (mI 14) (mI 15)), ((mN 2), .inl (g.2.2.1, 311, .inl d_r)), ((mN 4), .inl (g.2.2.1, 44, .inl d_st2_n)), ((mN 5), .inl (g.2.2.1, 528, .inl d_undone2_n))] rfl rfl (List.Perm.refl _))) ⟨_, _, hq0⟩

set_option maxHeartbeats 4000000 in
set_option maxRecDepth 100000 in
theorem lx_mend {p : Program} {l : Launch} {e : Env} {R : Room} {s : State} {m : MethodId} {args : Array Value} {below : List Frame} {meth : Method} {c : Code} {Q : State → Prop} {A : Nat → Prop} {g : Gx} {cc : ByteArray} {nL n1 n2 pc : Nat} {own : String} {lv : List (Nat × Value)} {st : List Value} {xtpd : Int32} {tpf : Nat → Int32} {yhnf : Nat → Int32} {yhtn : Int32} {yhtf : Nat → Int32} {yhjn : Int32} {yhjf : Nat → Int32} {yhmn : Int32} {yhmf : Nat → Int32} {yhbn : Int32} {yhbf : Nat → Int32} {yhsn : Int32} {yhsf : Nat → Int32} {yhcn : Int32} {yhcf : Nat → Int32} {zrn : Int32} {zmn : Int32} {zwn : Int32} {zpn : Int32} {zmd : Int32} {ztr : Int32} {zrf : Nat → Int32} {zmf : Nat → Int32} {zwf : Nat → Int32} {zpf : Nat → Int32} {kac : Int32} {knx : Int32} {kim : Int32} {cf : Nat → SC} {h0 i : Nat} {wX wY : va_W} (a1 : Int32) (X : Cx p s m meth c args cc nL own A g) (hx : XW g h0 xtpd tpf yhnf yhtn yhtf yhjn yhjf yhmn yhmf yhbn yhbf yhsn yhsf yhcn yhcf zrn zmn zwn zpn zmd ztr zrf zmf zwf zpf kac knx kim cf wX) (hd : decode cc pc = .ok (.invokevirtual i, 3)) (hm1 : Cond.methodLink own i yX10_mend ∈ wsL_law0) (hf : 4 + 1 ≤ R.frames) (hlo : 8 + (3 + 11) + 104 ≤ R.locals) (hst : (st.map fun v => v.category).sum ≤ 8) (h1 : n1 ≤ R.cells) (h2 : n2 ≤ R.slots)
    (kont : ∀ (r : Int32) (zrn_2 : Int32) (zmn_2 : Int32) (zwn_2 : Int32) (zpn_2 : Int32) (zmd_2 : Int32) (ztr_2 : Int32) (zrf_2 : Nat → Int32) (zmf_2 : Nat → Int32) (zwf_2 : Nat → Int32) (zpf_2 : Nat → Int32) (kac_2 : Int32) (knx_2 : Int32) (cf_2 : Nat → SC) (w2 : va_W), XW g h0 xtpd tpf yhnf yhtn yhtf yhjn yhjf yhmn yhmf yhbn yhbf yhsn yhsf yhcn yhcf zrn_2 zmn_2 zwn_2 zpn_2 zmd_2 ztr_2 zrf_2 zmf_2 zwf_2 zpf_2 kac_2 knx_2 kim cf_2 w2 → (∃ tr2 : Int32, R_c_mendX a1 zmd ztr zrn zrf zmn zmf zwn zwf zpn zpf kac knx cf tr2 zrf_2 zmf_2 zwf_2 zpf_2 zrn_2 zmn_2 zwn_2 zpn_2 zmd_2 ztr_2 kac_2 knx_2 cf_2 r) → Wk p l e R s m args below meth c Q A g nL n1 n2 (w2 ++ wY) lv (pc + 3) (.int r :: st)) : Wk p l e R s m args below meth c Q A g nL n1 n2 (wX ++ wY) lv pc ([.int a1] ++ .ref h0 :: st) := by
  refine XW_el hx (fun xN xI0 xI1 xJ1 xG2 xI3 xF3 xI4 xF4 xI5 xF5 xK xI10 xF10 xI11 xF11 xI12 xF12 xI13 xF13 xG13 xJ14 as pl h_xen h_xsta h_xpo h_xtpd h_kac h_knx h_kim hms hPL hkaf hkgf hlen hpm => ?_)
  refine k_callVIP (n := 1) (As := [.int a1]) (st := st) X (HAppend.hAppend (α := va_W) (β := va_W) (γ := va_W) [(cO10_rrrrrrrrri h0 (xN 0) (xN 1) (xN 2) (xN 3) (xN 4) (xN 5) (xN 6) (xN 7) (xN 8) (xI0 0)), ((xN 2), .inr (7, [.ref (xN 60), .ref (xN 61), .ref (xN 62), .ref (xN 63), .int zmd, .int ztr])), ((xN 60), .inr (8, [.int 8, .int 3, .ref (xN 64), .int zrn])), ((xN 64), .inl (g.2.2.1, 24, .inl zrf)), ((xN 61), .inr (8, [.int 12, .int 3, .ref (xN 65), .int zmn])), ((xN 65), .inl (g.2.2.1, 36, .inl zmf)), ((xN 62), .inr (8, [.int 6, .int 3, .ref (xN 66), .int zwn])), ((xN 66), .inl (g.2.2.1, 18, .inl zwf)), ((xN 63), .inr (8, [.int 8, .int 2, .ref (xN 67), .int zpn])), ((xN 67), .inl (g.2.2.1, 16, .inl zpf)), ((xN 3), .inr (4, [.ref (xN 68), .ref (xN 69), .int kac, .int knx, .int kim])), ((xN 68), .inl (g.2.2.2.2.1, 12, .inr (.inr (.inr (.inr (xK 0))))))] pl) (pkT (false :: true :: true :: true :: true :: true :: true :: true :: true :: true :: true :: true :: true :: true :: true :: true :: true :: true :: true :: true :: true :: true :: true :: true :: true :: true :: true :: true :: true :: true :: true :: true :: true :: true :: true :: true :: true :: true :: true :: true :: true :: true :: true :: true :: true :: true :: true :: true :: true :: true :: true :: true :: true :: true :: false :: false :: false :: false :: false :: false :: false :: false :: false :: false :: false :: []) (XC g h0 xtpd tpf yhnf yhtn yhtf yhjn yhjf yhmn yhmf yhbn yhbf yhsn yhsf yhcn yhcf zrn zmn zwn zpn zmd ztr zrf zmf zwf zpf kac knx kim xN xI0 xI1 xJ1 xG2 xI3 xF3 xI4 xF4 xI5 xF5 xK xI10 xF10 xI11 xF11 xI12 xF12 xI13 xF13 xG13 xJ14) ++ wY) (pm_XT hpm (pk_pick (false :: true :: true :: true :: true :: true :: true :: true :: true :: true :: true :: true :: true :: true :: true :: true :: true :: true :: true :: true :: true :: true :: true :: true :: true :: true :: true :: true :: true :: true :: true :: true :: true :: true :: true :: true :: true :: true :: true :: true :: true :: true :: true :: true :: true :: true :: true :: true :: true :: true :: true :: true :: true :: true :: false :: false :: false :: false :: false :: false :: false :: false :: false :: false :: false :: []) [(cO10_rrrrrrrrri h0 (xN 0) (xN 1) (xN 2) (xN 3) (xN 4) (xN 5) (xN 6) (xN 7) (xN 8) (xI0 0)), ((xN 2), .inr (7, [.ref (xN 60), .ref (xN 61), .ref (xN 62), .ref (xN 63), .int zmd, .int ztr])), ((xN 60), .inr (8, [.int 8, .int 3, .ref (xN 64), .int zrn])), ((xN 64), .inl (g.2.2.1, 24, .inl zrf)), ((xN 61), .inr (8, [.int 12, .int 3, .ref (xN 65), .int zmn])), ((xN 65), .inl (g.2.2.1, 36, .inl zmf)), ((xN 62), .inr (8, [.int 6, .int 3, .ref (xN 66), .int zwn])), ((xN 66), .inl (g.2.2.1, 18, .inl zwf)), ((xN 63), .inr (8, [.int 8, .int 2, .ref (xN 67), .int zpn])), ((xN 67), .inl (g.2.2.1, 16, .inl zpf)), ((xN 3), .inr (4, [.ref (xN 68), .ref (xN 69), .int kac, .int knx, .int kim])), ((xN 68), .inl (g.2.2.2.2.1, 12, .inr (.inr (.inr (.inr (xK 0))))))] rfl (List.Perm.refl _))) (c_mendX l g h0 a1 (.ref (xN 0)) (.ref (xN 1)) (xN 2) (xN 3) (.ref (xN 4)) (.ref (xN 5)) (.ref (xN 6)) (.ref (xN 7)) (.ref (xN 8)) (xI0 0) (xN 60) (xN 61) (xN 62) (xN 63) zmd ztr (xN 64) zrn zrf (xN 65) zmn zmf (xN 66) zwn zwf (xN 67) zpn zpf (xN 68) (xN 69) kac knx kim (xK 0) as pl cf (iv_w h_kac (zle_e rfl) (zle_e rfl)) (iv_w h_knx (zle_e rfl) (zle_e rfl)) hPL hkaf hlen) hd hm1 mw1488 mw1489 mw2 mw1490 rfl 10 rfl rfl 0 _ rfl yk_yX10_mend_1 rfl hf hlo hst h1 h2 ?_
  intro r w zq
  refine exE15 zq ?_
  clear zq
  intro tr2_n zrg_n zmg_n zwg_n zpg_n zrk_n zmk_n zwk_n zpk_n zmd2_n ztr2_n kac2_n knx2_n cf2_n pl2_n iv0 zq
  refine exA3 zq ?_
  clear zq
  intro iv1 hq0 hq1 zq
  subst zq
  refine k_perm _ pm_backT ?_
  exact kont r zrk_n zmk_n zwk_n zpk_n zmd2_n ztr2_n zrg_n zmg_n zwg_n zpg_n kac2_n knx2_n cf2_n _ (XW_mk xN (uu xI0 0 tr2_n) xI1 xJ1 xG2 xI3 xF3 xI4 xF4 xI5 xF5 xK xI10 xF10 xI11 xF11 xI12 xF12 xI13 xF13 xG13 xJ14 as pl2_n h_xen h_xsta h_xpo h_xtpd (iv_w iv0 (zle_e rfl) (zle_e rfl)) (iv_w iv1 (zle_e rfl) (zle_e rfl)) h_kim hms hq0 hkaf hkgf hlen (pk_backR (false :: true :: true :: true :: true :: true :: true :: true :: true :: true :: true :: true :: true :: true :: true :: true :: true :: true :: true :: true :: true :: true :: true :: true :: true :: true :: true :: true :: true :: true :: true :: true :: true :: true :: true :: true :: true :: true :: true :: true :: true :: true :: true :: true :: true :: true :: true :: true :: true :: true :: true :: true :: true :: true :: false :: false :: false :: false :: false :: false :: false :: false :: false :: false :: false :: []) [(cO10_rrrrrrrrri h0 (xN 0) (xN 1) (xN 2) (xN 3) (xN 4) (xN 5) (xN 6) (xN 7) (xN 8) tr2_n), ((xN 2), .inr (7, [.ref (xN 60), .ref (xN 61), .ref (xN 62), .ref (xN 63), .int zmd2_n, .int ztr2_n])), ((xN 60), .inr (8, [.int 8, .int 3, .ref (xN 64), .int zrk_n])), ((xN 64), .inl (g.2.2.1, 24, .inl zrg_n)), ((xN 61), .inr (8, [.int 12, .int 3, .ref (xN 65), .int zmk_n])), ((xN 65), .inl (g.2.2.1, 36, .inl zmg_n)), ((xN 62), .inr (8, [.int 6, .int 3, .ref (xN 66), .int zwk_n])), ((xN 66), .inl (g.2.2.1, 18, .inl zwg_n)), ((xN 63), .inr (8, [.int 8, .int 2, .ref (xN 67), .int zpk_n])), ((xN 67), .inl (g.2.2.1, 16, .inl zpg_n)), ((xN 3), .inr (4, [.ref (xN 68), .ref (xN 69), .int kac2_n, .int knx2_n, .int kim])), ((xN 68), .inl (g.2.2.2.2.1, 12, .inr (.inr (.inr (.inr (xK 0))))))] rfl rfl (List.Perm.refl _))) ⟨_, hq1⟩

set_option maxHeartbeats 4000000 in
set_option maxRecDepth 100000 in
theorem lm_mend {p : Program} {l : Launch} {e : Env} {R : Room} {s : State} {m : MethodId} {args : Array Value} {below : List Frame} {meth : Method} {c : Code} {Q : State → Prop} {A : Nat → Prop} {g : Gx} {cc : ByteArray} {nL n1 n2 pc : Nat} {own : String} {lv : List (Nat × Value)} {st : List Value} {m_taped : Int32} {d_tape : Nat → Int32} {d_r : Nat → Int32} {d_st : Nat → Int32} {d_undone : Nat → Int32} {d_kept : Nat → Int32} {m_undos : Int32} {m_images : Int32} {m_hasHouse : Int32} {mo i : Nat} {wX wM wO : va_W} (a1 : Int32) (X : Cx p s m meth c args cc nL own A g) (hx : MW g mo m_taped d_tape d_r d_st d_undone d_kept m_undos m_images m_hasHouse wM) (hd : decode cc pc = .ok (.invokevirtual i, 3)) (hm1 : Cond.methodLink own i yX11_mend ∈ wsL_law0) (hf : 2 + 1 ≤ R.frames) (hlo : 8 + (6 + 11) + 46 ≤ R.locals) (hst : (st.map fun v => v.category).sum ≤ 8) (h1 : n1 ≤ R.cells) (h2 : n2 ≤ R.slots)
    (kont : ∀ (r : Int32) (d_st_2 : Nat → Int32) (d_undone_2 : Nat → Int32) (m_undos_2 : Int32) (w2 : va_W), MW g mo m_taped d_tape d_r d_st_2 d_undone_2 d_kept m_undos_2 m_images m_hasHouse w2 → (∃ m_thrown2 : Int32, ∃ m_trouble2 : Int32, R_m_mendX a1 m_hasHouse m_undos d_r d_st d_undone d_st_2 m_thrown2 m_trouble2 d_undone_2 m_undos_2 r) → Wk p l e R s m args below meth c Q A g nL n1 n2 (wX ++ (w2 ++ wO)) lv (pc + 3) (.int r :: st)) : Wk p l e R s m args below meth c Q A g nL n1 n2 (wX ++ (wM ++ wO)) lv pc ([.int a1] ++ .ref mo :: st) := by
  refine MW_el hx (fun mI mN mFletters mFfresh mFfrom mFbegin mFmotor mFchange mFstartFrame mFchangeFrame mFlostAt mFblackAt mFslips mFleftArc mFdied mFarcs mFthere mFbackAt mFsorted mFparts h_m_size h_m_end h_m_nameSize h_m_failed h_m_hasHouse h_m_undos h_m_images h_m_taped hRr hRf hTr hpm => ?_)
  refine k_callVIP (n := 1) (As := [.int a1]) (st := st) X [(cO11_i1r1i10r1i2r5i2r12i3r4i2 mo (mI 0) (mN 0) m_taped (mI 1) (mI 2) (mI 3) (mI 4) (mI 5) (mI 6) (mI 7) (mI 8) (mI 9) (mN 1) (mI 10) m_hasHouse (mN 2) (mN 3) (mN 4) (mN 5) (mN 6) m_undos m_images (mN 7) (mN 8) (mN 9) (mN 10) (mN 11) (mN 12) (mN 13) (mN 14) (mN 15) (mN 16) (mN 17) (mN 18) (mI 11) (mI 12) (mI 13) (mN 19) (mN 20) (mN 21) (mN 22) (mI 14) (mI 15)), ((mN 2), .inl (g.2.2.1, 311, .inl d_r)), ((mN 4), .inl (g.2.2.1, 44, .inl d_st)), ((mN 5), .inl (g.2.2.1, 528, .inl d_undone))] (pkT [false, true, true, false, true, false, false] (MC g mo m_taped d_tape d_r d_st d_undone d_kept m_undos m_images m_hasHouse mI mN mFletters mFfresh mFfrom mFbegin mFmotor mFchange mFstartFrame mFchangeFrame mFlostAt mFblackAt mFslips mFleftArc mFdied mFarcs mFthere mFbackAt mFsorted mFparts) ++ (wX ++ wO)) (pm_M hpm (pk_pick [false, true, true, false, true, false, false] [(cO11_i1r1i10r1i2r5i2r12i3r4i2 mo (mI 0) (mN 0) m_taped (mI 1) (mI 2) (mI 3) (mI 4) (mI 5) (mI 6) (mI 7) (mI 8) (mI 9) (mN 1) (mI 10) m_hasHouse (mN 2) (mN 3) (mN 4) (mN 5) (mN 6) m_undos m_images (mN 7) (mN 8) (mN 9) (mN 10) (mN 11) (mN 12) (mN 13) (mN 14) (mN 15) (mN 16) (mN 17) (mN 18) (mI 11) (mI 12) (mI 13) (mN 19) (mN 20) (mN 21) (mN 22) (mI 14) (mI 15)), ((mN 2), .inl (g.2.2.1, 311, .inl d_r)), ((mN 4), .inl (g.2.2.1, 44, .inl d_st)), ((mN 5), .inl (g.2.2.1, 528, .inl d_undone))] rfl (List.Perm.refl _))) (m_mendX l g mo a1 (mI 0) (mN 0) m_taped (mI 1) (mI 2) (mI 3) (mI 4) (mI 5) (mI 6) (mI 7) (mI 8) (mI 9) (mN 1) (mI 10) m_hasHouse (mN 2) (mN 3) (mN 4) (mN 5) (mN 6) m_undos m_images (mN 7) (mN 8) (mN 9) (mN 10) (mN 11) (mN 12) (mN 13) (mN 14) (mN 15) (mN 16) (mN 17) (mN 18) (mI 11) (mI 12) (mI 13) (mN 19) (mN 20) (mN 21) (mN 22) (mI 14) (mI 15) d_r d_st d_undone (iv_w h_m_hasHouse (zle_e rfl) (zle_e rfl)) (iv_w h_m_undos (zle_e rfl) (zle_e rfl)) hRr) hd hm1 mw1505 mw1506 mw5 mw1507 rfl 11 rfl rfl 0 _ rfl yk_yX11_mend_1 rfl hf hlo hst h1 h2 ?_
  rintro r w ⟨d_st2_n, m_thrown2_n, m_trouble2_n, d_undone2_n, m_undos2_n, iv0, hq0, rfl⟩
  refine k_perm _ pm_backM ?_
  exact kont r d_st2_n d_undone2_n m_undos2_n _ (MW_mk (uu (uu mI 0 m_thrown2_n) 9 m_trouble2_n) mN mFletters mFfresh mFfrom mFbegin mFmotor mFchange mFstartFrame mFchangeFrame mFlostAt mFblackAt mFslips mFleftArc mFdied mFarcs mFthere mFbackAt mFsorted mFparts h_m_size h_m_end h_m_nameSize h_m_failed h_m_hasHouse (iv_w iv0 (zle_e rfl) (zle_e rfl)) h_m_images h_m_taped hRr hRf hTr (pk_back [false, true, true, false, true, false, false] [(cO11_i1r1i10r1i2r5i2r12i3r4i2 mo m_thrown2_n (mN 0) m_taped (mI 1) (mI 2) (mI 3) (mI 4) (mI 5) (mI 6) (mI 7) (mI 8) m_trouble2_n (mN 1) (mI 10) m_hasHouse (mN 2) (mN 3) (mN 4) (mN 5) (mN 6) m_undos2_n m_images (mN 7) (mN 8) (mN 9) (mN 10) (mN 11) (mN 12) (mN 13) (mN 14) (mN 15) (mN 16) (mN 17) (mN 18) (mI 11) (mI 12) (mI 13) (mN 19) (mN 20) (mN 21) (mN 22) (mI 14) (mI 15)), ((mN 2), .inl (g.2.2.1, 311, .inl d_r)), ((mN 4), .inl (g.2.2.1, 44, .inl d_st2_n)), ((mN 5), .inl (g.2.2.1, 528, .inl d_undone2_n))] rfl rfl (List.Perm.refl _))) ⟨_, _, hq0⟩

set_option maxHeartbeats 4000000 in
set_option maxRecDepth 100000 in
theorem lx_undo {p : Program} {l : Launch} {e : Env} {R : Room} {s : State} {m : MethodId} {args : Array Value} {below : List Frame} {meth : Method} {c : Code} {Q : State → Prop} {A : Nat → Prop} {g : Gx} {cc : ByteArray} {nL n1 n2 pc : Nat} {own : String} {lv : List (Nat × Value)} {st : List Value} {xtpd : Int32} {tpf : Nat → Int32} {yhnf : Nat → Int32} {yhtn : Int32} {yhtf : Nat → Int32} {yhjn : Int32} {yhjf : Nat → Int32} {yhmn : Int32} {yhmf : Nat → Int32} {yhbn : Int32} {yhbf : Nat → Int32} {yhsn : Int32} {yhsf : Nat → Int32} {yhcn : Int32} {yhcf : Nat → Int32} {zrn : Int32} {zmn : Int32} {zwn : Int32} {zpn : Int32} {zmd : Int32} {ztr : Int32} {zrf : Nat → Int32} {zmf : Nat → Int32} {zwf : Nat → Int32} {zpf : Nat → Int32} {kac : Int32} {knx : Int32} {kim : Int32} {cf : Nat → SC} {h0 i : Nat} {wX wY : va_W} (_u : Unit) (X : Cx p s m meth c args cc nL own A g) (hx : XW g h0 xtpd tpf yhnf yhtn yhtf yhjn yhjf yhmn yhmf yhbn yhbf yhsn yhsf yhcn yhcf zrn zmn zwn zpn zmd ztr zrf zmf zwf zpf kac knx kim cf wX) (hd : decode cc pc = .ok (.invokevirtual i, 3)) (hm1 : Cond.methodLink own i yX10_undo ∈ wsL_law0) (hf : 4 + 1 ≤ R.frames) (hlo : 8 + (1 + 11) + 103 ≤ R.locals) (hst : (st.map fun v => v.category).sum ≤ 8) (h1 : n1 ≤ R.cells) (h2 : n2 ≤ R.slots)
    (kont : ∀ (r : Int32) (zrn_2 : Int32) (zmn_2 : Int32) (zwn_2 : Int32) (zpn_2 : Int32) (zmd_2 : Int32) (ztr_2 : Int32) (zrf_2 : Nat → Int32) (zmf_2 : Nat → Int32) (zwf_2 : Nat → Int32) (zpf_2 : Nat → Int32) (kac_2 : Int32) (knx_2 : Int32) (cf_2 : Nat → SC) (w2 : va_W), XW g h0 xtpd tpf yhnf yhtn yhtf yhjn yhjf yhmn yhmf yhbn yhbf yhsn yhsf yhcn yhcf zrn_2 zmn_2 zwn_2 zpn_2 zmd_2 ztr_2 zrf_2 zmf_2 zwf_2 zpf_2 kac_2 knx_2 kim cf_2 w2 → (∃ tr2 : Int32, R_c_undoX zmd ztr zrn zrf zmn zmf zwn zwf zpn zpf kac knx cf tr2 zrf_2 zmf_2 zwf_2 zpf_2 zrn_2 zmn_2 zwn_2 zpn_2 zmd_2 ztr_2 kac_2 knx_2 cf_2 r) → Wk p l e R s m args below meth c Q A g nL n1 n2 (w2 ++ wY) lv (pc + 3) (.int r :: st)) : Wk p l e R s m args below meth c Q A g nL n1 n2 (wX ++ wY) lv pc ([] ++ .ref h0 :: st) := by
  refine XW_el hx (fun xN xI0 xI1 xJ1 xG2 xI3 xF3 xI4 xF4 xI5 xF5 xK xI10 xF10 xI11 xF11 xI12 xF12 xI13 xF13 xG13 xJ14 as pl h_xen h_xsta h_xpo h_xtpd h_kac h_knx h_kim hms hPL hkaf hkgf hlen hpm => ?_)
  refine k_callVIP (n := 0) (As := []) (st := st) X (HAppend.hAppend (α := va_W) (β := va_W) (γ := va_W) [(cO10_rrrrrrrrri h0 (xN 0) (xN 1) (xN 2) (xN 3) (xN 4) (xN 5) (xN 6) (xN 7) (xN 8) (xI0 0)), ((xN 2), .inr (7, [.ref (xN 60), .ref (xN 61), .ref (xN 62), .ref (xN 63), .int zmd, .int ztr])), ((xN 60), .inr (8, [.int 8, .int 3, .ref (xN 64), .int zrn])), ((xN 64), .inl (g.2.2.1, 24, .inl zrf)), ((xN 61), .inr (8, [.int 12, .int 3, .ref (xN 65), .int zmn])), ((xN 65), .inl (g.2.2.1, 36, .inl zmf)), ((xN 62), .inr (8, [.int 6, .int 3, .ref (xN 66), .int zwn])), ((xN 66), .inl (g.2.2.1, 18, .inl zwf)), ((xN 63), .inr (8, [.int 8, .int 2, .ref (xN 67), .int zpn])), ((xN 67), .inl (g.2.2.1, 16, .inl zpf)), ((xN 3), .inr (4, [.ref (xN 68), .ref (xN 69), .int kac, .int knx, .int kim])), ((xN 68), .inl (g.2.2.2.2.1, 12, .inr (.inr (.inr (.inr (xK 0))))))] pl) (pkT (false :: true :: true :: true :: true :: true :: true :: true :: true :: true :: true :: true :: true :: true :: true :: true :: true :: true :: true :: true :: true :: true :: true :: true :: true :: true :: true :: true :: true :: true :: true :: true :: true :: true :: true :: true :: true :: true :: true :: true :: true :: true :: true :: true :: true :: true :: true :: true :: true :: true :: true :: true :: true :: true :: false :: false :: false :: false :: false :: false :: false :: false :: false :: false :: false :: []) (XC g h0 xtpd tpf yhnf yhtn yhtf yhjn yhjf yhmn yhmf yhbn yhbf yhsn yhsf yhcn yhcf zrn zmn zwn zpn zmd ztr zrf zmf zwf zpf kac knx kim xN xI0 xI1 xJ1 xG2 xI3 xF3 xI4 xF4 xI5 xF5 xK xI10 xF10 xI11 xF11 xI12 xF12 xI13 xF13 xG13 xJ14) ++ wY) (pm_XT hpm (pk_pick (false :: true :: true :: true :: true :: true :: true :: true :: true :: true :: true :: true :: true :: true :: true :: true :: true :: true :: true :: true :: true :: true :: true :: true :: true :: true :: true :: true :: true :: true :: true :: true :: true :: true :: true :: true :: true :: true :: true :: true :: true :: true :: true :: true :: true :: true :: true :: true :: true :: true :: true :: true :: true :: true :: false :: false :: false :: false :: false :: false :: false :: false :: false :: false :: false :: []) [(cO10_rrrrrrrrri h0 (xN 0) (xN 1) (xN 2) (xN 3) (xN 4) (xN 5) (xN 6) (xN 7) (xN 8) (xI0 0)), ((xN 2), .inr (7, [.ref (xN 60), .ref (xN 61), .ref (xN 62), .ref (xN 63), .int zmd, .int ztr])), ((xN 60), .inr (8, [.int 8, .int 3, .ref (xN 64), .int zrn])), ((xN 64), .inl (g.2.2.1, 24, .inl zrf)), ((xN 61), .inr (8, [.int 12, .int 3, .ref (xN 65), .int zmn])), ((xN 65), .inl (g.2.2.1, 36, .inl zmf)), ((xN 62), .inr (8, [.int 6, .int 3, .ref (xN 66), .int zwn])), ((xN 66), .inl (g.2.2.1, 18, .inl zwf)), ((xN 63), .inr (8, [.int 8, .int 2, .ref (xN 67), .int zpn])), ((xN 67), .inl (g.2.2.1, 16, .inl zpf)), ((xN 3), .inr (4, [.ref (xN 68), .ref (xN 69), .int kac, .int knx, .int kim])), ((xN 68), .inl (g.2.2.2.2.1, 12, .inr (.inr (.inr (.inr (xK 0))))))] rfl (List.Perm.refl _))) (c_undoX l g h0 (.ref (xN 0)) (.ref (xN 1)) (xN 2) (xN 3) (.ref (xN 4)) (.ref (xN 5)) (.ref (xN 6)) (.ref (xN 7)) (.ref (xN 8)) (xI0 0) (xN 60) (xN 61) (xN 62) (xN 63) zmd ztr (xN 64) zrn zrf (xN 65) zmn zmf (xN 66) zwn zwf (xN 67) zpn zpf (xN 68) (xN 69) kac knx kim (xK 0) as pl cf (iv_w h_kac (zle_e rfl) (zle_e rfl)) (iv_w h_knx (zle_e rfl) (zle_e rfl)) hPL hkaf hlen) hd hm1 mw1512 mw1513 mw2 mw1514 rfl 10 rfl rfl 0 _ rfl yk_yX10_undo_0 rfl hf hlo hst h1 h2 ?_
  intro r w zq
  refine exE15 zq ?_
  clear zq
  intro tr2_n zrg_n zmg_n zwg_n zpg_n zrk_n zmk_n zwk_n zpk_n zmd2_n ztr2_n kac2_n knx2_n cf2_n pl2_n iv0 zq
  refine exA4 zq ?_
  clear zq
  intro iv1 iv2 hq0 hq1 zq
  subst zq
  refine k_perm _ pm_backT ?_
  exact kont r zrk_n zmk_n zwk_n zpk_n zmd2_n ztr2_n zrg_n zmg_n zwg_n zpg_n kac2_n knx2_n cf2_n _ (XW_mk xN (uu xI0 0 tr2_n) xI1 xJ1 xG2 xI3 xF3 xI4 xF4 xI5 xF5 xK xI10 xF10 xI11 xF11 xI12 xF12 xI13 xF13 xG13 xJ14 as pl2_n h_xen h_xsta h_xpo h_xtpd (iv_w iv0 (zle_e rfl) (zle_e rfl)) (iv_w iv1 (zle_e rfl) (zle_e rfl)) h_kim hms hq0 hkaf hkgf hlen (pk_backR (false :: true :: true :: true :: true :: true :: true :: true :: true :: true :: true :: true :: true :: true :: true :: true :: true :: true :: true :: true :: true :: true :: true :: true :: true :: true :: true :: true :: true :: true :: true :: true :: true :: true :: true :: true :: true :: true :: true :: true :: true :: true :: true :: true :: true :: true :: true :: true :: true :: true :: true :: true :: true :: true :: false :: false :: false :: false :: false :: false :: false :: false :: false :: false :: false :: []) [(cO10_rrrrrrrrri h0 (xN 0) (xN 1) (xN 2) (xN 3) (xN 4) (xN 5) (xN 6) (xN 7) (xN 8) tr2_n), ((xN 2), .inr (7, [.ref (xN 60), .ref (xN 61), .ref (xN 62), .ref (xN 63), .int zmd2_n, .int ztr2_n])), ((xN 60), .inr (8, [.int 8, .int 3, .ref (xN 64), .int zrk_n])), ((xN 64), .inl (g.2.2.1, 24, .inl zrg_n)), ((xN 61), .inr (8, [.int 12, .int 3, .ref (xN 65), .int zmk_n])), ((xN 65), .inl (g.2.2.1, 36, .inl zmg_n)), ((xN 62), .inr (8, [.int 6, .int 3, .ref (xN 66), .int zwk_n])), ((xN 66), .inl (g.2.2.1, 18, .inl zwg_n)), ((xN 63), .inr (8, [.int 8, .int 2, .ref (xN 67), .int zpk_n])), ((xN 67), .inl (g.2.2.1, 16, .inl zpg_n)), ((xN 3), .inr (4, [.ref (xN 68), .ref (xN 69), .int kac2_n, .int knx2_n, .int kim])), ((xN 68), .inl (g.2.2.2.2.1, 12, .inr (.inr (.inr (.inr (xK 0))))))] rfl rfl (List.Perm.refl _))) ⟨_, hq1⟩

set_option maxHeartbeats 4000000 in
set_option maxRecDepth 100000 in
theorem lm_undo {p : Program} {l : Launch} {e : Env} {R : Room} {s : State} {m : MethodId} {args : Array Value} {below : List Frame} {meth : Method} {c : Code} {Q : State → Prop} {A : Nat → Prop} {g : Gx} {cc : ByteArray} {nL n1 n2 pc : Nat} {own : String} {lv : List (Nat × Value)} {st : List Value} {m_taped : Int32} {d_tape : Nat → Int32} {d_r : Nat → Int32} {d_st : Nat → Int32} {d_undone : Nat → Int32} {d_kept : Nat → Int32} {m_undos : Int32} {m_images : Int32} {m_hasHouse : Int32} {mo i : Nat} {wX wM wO : va_W} (_u : Unit) (X : Cx p s m meth c args cc nL own A g) (hx : MW g mo m_taped d_tape d_r d_st d_undone d_kept m_undos m_images m_hasHouse wM) (hd : decode cc pc = .ok (.invokevirtual i, 3)) (hm1 : Cond.methodLink own i yX11_undo ∈ wsL_law0) (hf : 1 + 1 ≤ R.frames) (hlo : 8 + (1 + 11) + 25 ≤ R.locals) (hst : (st.map fun v => v.category).sum ≤ 8) (h1 : n1 ≤ R.cells) (h2 : n2 ≤ R.slots)
    (kont : ∀ (r : Int32) (d_st_2 : Nat → Int32) (m_undos_2 : Int32) (w2 : va_W), MW g mo m_taped d_tape d_r d_st_2 d_undone d_kept m_undos_2 m_images m_hasHouse w2 → (∃ m_thrown2 : Int32, ∃ m_trouble2 : Int32, R_m_undoX m_undos d_st d_undone d_st_2 m_thrown2 m_trouble2 m_undos_2 r) → Wk p l e R s m args below meth c Q A g nL n1 n2 (wX ++ (w2 ++ wO)) lv (pc + 3) (.int r :: st)) : Wk p l e R s m args below meth c Q A g nL n1 n2 (wX ++ (wM ++ wO)) lv pc ([] ++ .ref mo :: st) := by
  refine MW_el hx (fun mI mN mFletters mFfresh mFfrom mFbegin mFmotor mFchange mFstartFrame mFchangeFrame mFlostAt mFblackAt mFslips mFleftArc mFdied mFarcs mFthere mFbackAt mFsorted mFparts h_m_size h_m_end h_m_nameSize h_m_failed h_m_hasHouse h_m_undos h_m_images h_m_taped hRr hRf hTr hpm => ?_)
  refine k_callVIP (n := 0) (As := []) (st := st) X [(cO11_i1r1i10r1i2r5i2r12i3r4i2 mo (mI 0) (mN 0) m_taped (mI 1) (mI 2) (mI 3) (mI 4) (mI 5) (mI 6) (mI 7) (mI 8) (mI 9) (mN 1) (mI 10) m_hasHouse (mN 2) (mN 3) (mN 4) (mN 5) (mN 6) m_undos m_images (mN 7) (mN 8) (mN 9) (mN 10) (mN 11) (mN 12) (mN 13) (mN 14) (mN 15) (mN 16) (mN 17) (mN 18) (mI 11) (mI 12) (mI 13) (mN 19) (mN 20) (mN 21) (mN 22) (mI 14) (mI 15)), ((mN 4), .inl (g.2.2.1, 44, .inl d_st)), ((mN 5), .inl (g.2.2.1, 528, .inl d_undone))] (pkT [false, true, true, true, true, false, false] (MC g mo m_taped d_tape d_r d_st d_undone d_kept m_undos m_images m_hasHouse mI mN mFletters mFfresh mFfrom mFbegin mFmotor mFchange mFstartFrame mFchangeFrame mFlostAt mFblackAt mFslips mFleftArc mFdied mFarcs mFthere mFbackAt mFsorted mFparts) ++ (wX ++ wO)) (pm_M hpm (pk_pick [false, true, true, true, true, false, false] [(cO11_i1r1i10r1i2r5i2r12i3r4i2 mo (mI 0) (mN 0) m_taped (mI 1) (mI 2) (mI 3) (mI 4) (mI 5) (mI 6) (mI 7) (mI 8) (mI 9) (mN 1) (mI 10) m_hasHouse (mN 2) (mN 3) (mN 4) (mN 5) (mN 6) m_undos m_images (mN 7) (mN 8) (mN 9) (mN 10) (mN 11) (mN 12) (mN 13) (mN 14) (mN 15) (mN 16) (mN 17) (mN 18) (mI 11) (mI 12) (mI 13) (mN 19) (mN 20) (mN 21) (mN 22) (mI 14) (mI 15)), ((mN 4), .inl (g.2.2.1, 44, .inl d_st)), ((mN 5), .inl (g.2.2.1, 528, .inl d_undone))] rfl (List.Perm.refl _))) (m_undoX l g mo (mI 0) (mN 0) m_taped (mI 1) (mI 2) (mI 3) (mI 4) (mI 5) (mI 6) (mI 7) (mI 8) (mI 9) (mN 1) (mI 10) m_hasHouse (mN 2) (mN 3) (mN 4) (mN 5) (mN 6) m_undos m_images (mN 7) (mN 8) (mN 9) (mN 10) (mN 11) (mN 12) (mN 13) (mN 14) (mN 15) (mN 16) (mN 17) (mN 18) (mI 11) (mI 12) (mI 13) (mN 19) (mN 20) (mN 21) (mN 22) (mI 14) (mI 15) d_st d_undone (iv_w h_m_undos (zle_e rfl) (zle_e rfl))) hd hm1 mw1520 mw1521 mw5 mw1522 rfl 11 rfl rfl 0 _ rfl yk_yX11_undo_0 rfl hf hlo hst h1 h2 ?_
  rintro r w ⟨d_st2_n, m_thrown2_n, m_trouble2_n, m_undos2_n, iv0, iv1, hq0, rfl⟩
  refine k_perm _ pm_backM ?_
  exact kont r d_st2_n m_undos2_n _ (MW_mk (uu (uu mI 0 m_thrown2_n) 9 m_trouble2_n) mN mFletters mFfresh mFfrom mFbegin mFmotor mFchange mFstartFrame mFchangeFrame mFlostAt mFblackAt mFslips mFleftArc mFdied mFarcs mFthere mFbackAt mFsorted mFparts h_m_size h_m_end h_m_nameSize h_m_failed h_m_hasHouse (iv_w iv0 (zle_e rfl) (zle_e rfl)) h_m_images h_m_taped hRr hRf hTr (pk_back [false, true, true, true, true, false, false] [(cO11_i1r1i10r1i2r5i2r12i3r4i2 mo m_thrown2_n (mN 0) m_taped (mI 1) (mI 2) (mI 3) (mI 4) (mI 5) (mI 6) (mI 7) (mI 8) m_trouble2_n (mN 1) (mI 10) m_hasHouse (mN 2) (mN 3) (mN 4) (mN 5) (mN 6) m_undos2_n m_images (mN 7) (mN 8) (mN 9) (mN 10) (mN 11) (mN 12) (mN 13) (mN 14) (mN 15) (mN 16) (mN 17) (mN 18) (mI 11) (mI 12) (mI 13) (mN 19) (mN 20) (mN 21) (mN 22) (mI 14) (mI 15)), ((mN 4), .inl (g.2.2.1, 44, .inl d_st2_n)), ((mN 5), .inl (g.2.2.1, 528, .inl d_undone))] rfl rfl (List.Perm.refl _))) ⟨_, _, hq0⟩

set_option maxHeartbeats 4000000 in
set_option maxRecDepth 100000 in
theorem lx_image {p : Program} {l : Launch} {e : Env} {R : Room} {s : State} {m : MethodId} {args : Array Value} {below : List Frame} {meth : Method} {c : Code} {Q : State → Prop} {A : Nat → Prop} {g : Gx} {cc : ByteArray} {nL n1 n2 pc : Nat} {own : String} {lv : List (Nat × Value)} {st : List Value} {xtpd : Int32} {tpf : Nat → Int32} {yhnf : Nat → Int32} {yhtn : Int32} {yhtf : Nat → Int32} {yhjn : Int32} {yhjf : Nat → Int32} {yhmn : Int32} {yhmf : Nat → Int32} {yhbn : Int32} {yhbf : Nat → Int32} {yhsn : Int32} {yhsf : Nat → Int32} {yhcn : Int32} {yhcf : Nat → Int32} {zrn : Int32} {zmn : Int32} {zwn : Int32} {zpn : Int32} {zmd : Int32} {ztr : Int32} {zrf : Nat → Int32} {zmf : Nat → Int32} {zwf : Nat → Int32} {zpf : Nat → Int32} {kac : Int32} {knx : Int32} {kim : Int32} {cf : Nat → SC} {h0 i : Nat} {wX wY : va_W} (_u : Unit) (X : Cx p s m meth c args cc nL own A g) (hx : XW g h0 xtpd tpf yhnf yhtn yhtf yhjn yhjf yhmn yhmf yhbn yhbf yhsn yhsf yhcn yhcf zrn zmn zwn zpn zmd ztr zrf zmf zwf zpf kac knx kim cf wX) (hd : decode cc pc = .ok (.invokevirtual i, 3)) (hm1 : Cond.methodLink own i yX10_image ∈ wsL_law0) (hf : 4 + 1 ≤ R.frames) (hlo : 8 + (2 + 11) + 104 ≤ R.locals) (hst : (st.map fun v => v.category).sum ≤ 8) (h1 : n1 ≤ R.cells) (h2 : n2 ≤ R.slots)
    (kont : ∀ (r : Int32) (zrn_2 : Int32) (zmn_2 : Int32) (zwn_2 : Int32) (zpn_2 : Int32) (zmd_2 : Int32) (ztr_2 : Int32) (zrf_2 : Nat → Int32) (zmf_2 : Nat → Int32) (zwf_2 : Nat → Int32) (zpf_2 : Nat → Int32) (kim_2 : Int32) (cf_2 : Nat → SC) (w2 : va_W), XW g h0 xtpd tpf yhnf yhtn yhtf yhjn yhjf yhmn yhmf yhbn yhbf yhsn yhsf yhcn yhcf zrn_2 zmn_2 zwn_2 zpn_2 zmd_2 ztr_2 zrf_2 zmf_2 zwf_2 zpf_2 kac knx kim_2 cf_2 w2 → (∃ tr2 : Int32, R_c_imageX zmd ztr zrn zrf zmn zmf zwn zwf zpn zpf kim cf tr2 zrf_2 zmf_2 zwf_2 zpf_2 zrn_2 zmn_2 zwn_2 zpn_2 zmd_2 ztr_2 kim_2 cf_2 r) → Wk p l e R s m args below meth c Q A g nL n1 n2 (w2 ++ wY) lv (pc + 3) (.int r :: st)) : Wk p l e R s m args below meth c Q A g nL n1 n2 (wX ++ wY) lv pc ([] ++ .ref h0 :: st) := by
  refine XW_el hx (fun xN xI0 xI1 xJ1 xG2 xI3 xF3 xI4 xF4 xI5 xF5 xK xI10 xF10 xI11 xF11 xI12 xF12 xI13 xF13 xG13 xJ14 as pl h_xen h_xsta h_xpo h_xtpd h_kac h_knx h_kim hms hPL hkaf hkgf hlen hpm => ?_)
  refine k_callVIP (n := 0) (As := []) (st := st) X (HAppend.hAppend (α := va_W) (β := va_W) (γ := va_W) [(cO10_rrrrrrrrri h0 (xN 0) (xN 1) (xN 2) (xN 3) (xN 4) (xN 5) (xN 6) (xN 7) (xN 8) (xI0 0)), ((xN 2), .inr (7, [.ref (xN 60), .ref (xN 61), .ref (xN 62), .ref (xN 63), .int zmd, .int ztr])), ((xN 60), .inr (8, [.int 8, .int 3, .ref (xN 64), .int zrn])), ((xN 64), .inl (g.2.2.1, 24, .inl zrf)), ((xN 61), .inr (8, [.int 12, .int 3, .ref (xN 65), .int zmn])), ((xN 65), .inl (g.2.2.1, 36, .inl zmf)), ((xN 62), .inr (8, [.int 6, .int 3, .ref (xN 66), .int zwn])), ((xN 66), .inl (g.2.2.1, 18, .inl zwf)), ((xN 63), .inr (8, [.int 8, .int 2, .ref (xN 67), .int zpn])), ((xN 67), .inl (g.2.2.1, 16, .inl zpf)), ((xN 3), .inr (4, [.ref (xN 68), .ref (xN 69), .int kac, .int knx, .int kim])), ((xN 69), .inl (g.2.2.2.2.1, 3, .inr (.inr (.inr (.inr (xK 1))))))] pl) (pkT (false :: true :: true :: true :: true :: true :: true :: true :: true :: true :: true :: true :: true :: true :: true :: true :: true :: true :: true :: true :: true :: true :: true :: true :: true :: true :: true :: true :: true :: true :: true :: true :: true :: true :: true :: true :: true :: true :: true :: true :: true :: true :: true :: true :: true :: true :: true :: true :: true :: true :: true :: true :: true :: true :: false :: false :: false :: false :: false :: false :: false :: false :: false :: false :: true :: false :: []) (XC g h0 xtpd tpf yhnf yhtn yhtf yhjn yhjf yhmn yhmf yhbn yhbf yhsn yhsf yhcn yhcf zrn zmn zwn zpn zmd ztr zrf zmf zwf zpf kac knx kim xN xI0 xI1 xJ1 xG2 xI3 xF3 xI4 xF4 xI5 xF5 xK xI10 xF10 xI11 xF11 xI12 xF12 xI13 xF13 xG13 xJ14) ++ wY) (pm_XT hpm (pk_pick (false :: true :: true :: true :: true :: true :: true :: true :: true :: true :: true :: true :: true :: true :: true :: true :: true :: true :: true :: true :: true :: true :: true :: true :: true :: true :: true :: true :: true :: true :: true :: true :: true :: true :: true :: true :: true :: true :: true :: true :: true :: true :: true :: true :: true :: true :: true :: true :: true :: true :: true :: true :: true :: true :: false :: false :: false :: false :: false :: false :: false :: false :: false :: false :: true :: false :: []) [(cO10_rrrrrrrrri h0 (xN 0) (xN 1) (xN 2) (xN 3) (xN 4) (xN 5) (xN 6) (xN 7) (xN 8) (xI0 0)), ((xN 2), .inr (7, [.ref (xN 60), .ref (xN 61), .ref (xN 62), .ref (xN 63), .int zmd, .int ztr])), ((xN 60), .inr (8, [.int 8, .int 3, .ref (xN 64), .int zrn])), ((xN 64), .inl (g.2.2.1, 24, .inl zrf)), ((xN 61), .inr (8, [.int 12, .int 3, .ref (xN 65), .int zmn])), ((xN 65), .inl (g.2.2.1, 36, .inl zmf)), ((xN 62), .inr (8, [.int 6, .int 3, .ref (xN 66), .int zwn])), ((xN 66), .inl (g.2.2.1, 18, .inl zwf)), ((xN 63), .inr (8, [.int 8, .int 2, .ref (xN 67), .int zpn])), ((xN 67), .inl (g.2.2.1, 16, .inl zpf)), ((xN 3), .inr (4, [.ref (xN 68), .ref (xN 69), .int kac, .int knx, .int kim])), ((xN 69), .inl (g.2.2.2.2.1, 3, .inr (.inr (.inr (.inr (xK 1))))))] rfl (List.Perm.refl _))) (c_imageX l g h0 (.ref (xN 0)) (.ref (xN 1)) (xN 2) (xN 3) (.ref (xN 4)) (.ref (xN 5)) (.ref (xN 6)) (.ref (xN 7)) (.ref (xN 8)) (xI0 0) (xN 60) (xN 61) (xN 62) (xN 63) zmd ztr (xN 64) zrn zrf (xN 65) zmn zmf (xN 66) zwn zwf (xN 67) zpn zpf (xN 68) (xN 69) kac knx kim (xK 1) as pl cf (iv_w h_kim (zle_e rfl) (zle_e rfl)) hPL hkgf hlen) hd hm1 mw1524 mw1525 mw2 mw1526 rfl 10 rfl rfl 0 _ rfl yk_yX10_image_0 rfl hf hlo hst h1 h2 ?_
  intro r w zq
  refine exE14 zq ?_
  clear zq
  intro tr2_n zrg_n zmg_n zwg_n zpg_n zrk_n zmk_n zwk_n zpk_n zmd2_n ztr2_n kim2_n cf2_n pl2_n iv0 zq
  refine exA2 zq ?_
  clear zq
  intro hq0 hq1 zq
  subst zq
  refine k_perm _ pm_backT ?_
  exact kont r zrk_n zmk_n zwk_n zpk_n zmd2_n ztr2_n zrg_n zmg_n zwg_n zpg_n kim2_n cf2_n _ (XW_mk xN (uu xI0 0 tr2_n) xI1 xJ1 xG2 xI3 xF3 xI4 xF4 xI5 xF5 xK xI10 xF10 xI11 xF11 xI12 xF12 xI13 xF13 xG13 xJ14 as pl2_n h_xen h_xsta h_xpo h_xtpd h_kac h_knx (iv_w iv0 (zle_e rfl) (zle_e rfl)) hms hq0 hkaf hkgf hlen (pk_backR (false :: true :: true :: true :: true :: true :: true :: true :: true :: true :: true :: true :: true :: true :: true :: true :: true :: true :: true :: true :: true :: true :: true :: true :: true :: true :: true :: true :: true :: true :: true :: true :: true :: true :: true :: true :: true :: true :: true :: true :: true :: true :: true :: true :: true :: true :: true :: true :: true :: true :: true :: true :: true :: true :: false :: false :: false :: false :: false :: false :: false :: false :: false :: false :: true :: false :: []) [(cO10_rrrrrrrrri h0 (xN 0) (xN 1) (xN 2) (xN 3) (xN 4) (xN 5) (xN 6) (xN 7) (xN 8) tr2_n), ((xN 2), .inr (7, [.ref (xN 60), .ref (xN 61), .ref (xN 62), .ref (xN 63), .int zmd2_n, .int ztr2_n])), ((xN 60), .inr (8, [.int 8, .int 3, .ref (xN 64), .int zrk_n])), ((xN 64), .inl (g.2.2.1, 24, .inl zrg_n)), ((xN 61), .inr (8, [.int 12, .int 3, .ref (xN 65), .int zmk_n])), ((xN 65), .inl (g.2.2.1, 36, .inl zmg_n)), ((xN 62), .inr (8, [.int 6, .int 3, .ref (xN 66), .int zwk_n])), ((xN 66), .inl (g.2.2.1, 18, .inl zwg_n)), ((xN 63), .inr (8, [.int 8, .int 2, .ref (xN 67), .int zpk_n])), ((xN 67), .inl (g.2.2.1, 16, .inl zpg_n)), ((xN 3), .inr (4, [.ref (xN 68), .ref (xN 69), .int kac, .int knx, .int kim2_n])), ((xN 69), .inl (g.2.2.2.2.1, 3, .inr (.inr (.inr (.inr (xK 1))))))] rfl rfl (List.Perm.refl _))) ⟨_, hq1⟩

set_option maxHeartbeats 4000000 in
set_option maxRecDepth 100000 in
theorem lm_image {p : Program} {l : Launch} {e : Env} {R : Room} {s : State} {m : MethodId} {args : Array Value} {below : List Frame} {meth : Method} {c : Code} {Q : State → Prop} {A : Nat → Prop} {g : Gx} {cc : ByteArray} {nL n1 n2 pc : Nat} {own : String} {lv : List (Nat × Value)} {st : List Value} {m_taped : Int32} {d_tape : Nat → Int32} {d_r : Nat → Int32} {d_st : Nat → Int32} {d_undone : Nat → Int32} {d_kept : Nat → Int32} {m_undos : Int32} {m_images : Int32} {m_hasHouse : Int32} {mo i : Nat} {wX wM wO : va_W} (_u : Unit) (X : Cx p s m meth c args cc nL own A g) (hx : MW g mo m_taped d_tape d_r d_st d_undone d_kept m_undos m_images m_hasHouse wM) (hd : decode cc pc = .ok (.invokevirtual i, 3)) (hm1 : Cond.methodLink own i yX11_image ∈ wsL_law0) (hf : 1 + 1 ≤ R.frames) (hlo : 8 + (1 + 11) + 25 ≤ R.locals) (hst : (st.map fun v => v.category).sum ≤ 8) (h1 : n1 ≤ R.cells) (h2 : n2 ≤ R.slots)
    (kont : ∀ (r : Int32) (d_kept_2 : Nat → Int32) (m_images_2 : Int32) (w2 : va_W), MW g mo m_taped d_tape d_r d_st d_undone d_kept_2 m_undos m_images_2 m_hasHouse w2 → (∃ m_thrown2 : Int32, ∃ m_trouble2 : Int32, R_m_imageX m_hasHouse m_images d_st d_kept m_images_2 d_kept_2 m_thrown2 m_trouble2 r) → Wk p l e R s m args below meth c Q A g nL n1 n2 (wX ++ (w2 ++ wO)) lv (pc + 3) (.int r :: st)) : Wk p l e R s m args below meth c Q A g nL n1 n2 (wX ++ (wM ++ wO)) lv pc ([] ++ .ref mo :: st) := by
  refine MW_el hx (fun mI mN mFletters mFfresh mFfrom mFbegin mFmotor mFchange mFstartFrame mFchangeFrame mFlostAt mFblackAt mFslips mFleftArc mFdied mFarcs mFthere mFbackAt mFsorted mFparts h_m_size h_m_end h_m_nameSize h_m_failed h_m_hasHouse h_m_undos h_m_images h_m_taped hRr hRf hTr hpm => ?_)
  refine k_callVIP (n := 0) (As := []) (st := st) X [(cO11_i1r1i10r1i2r5i2r12i3r4i2 mo (mI 0) (mN 0) m_taped (mI 1) (mI 2) (mI 3) (mI 4) (mI 5) (mI 6) (mI 7) (mI 8) (mI 9) (mN 1) (mI 10) m_hasHouse (mN 2) (mN 3) (mN 4) (mN 5) (mN 6) m_undos m_images (mN 7) (mN 8) (mN 9) (mN 10) (mN 11) (mN 12) (mN 13) (mN 14) (mN 15) (mN 16) (mN 17) (mN 18) (mI 11) (mI 12) (mI 13) (mN 19) (mN 20) (mN 21) (mN 22) (mI 14) (mI 15)), ((mN 4), .inl (g.2.2.1, 44, .inl d_st)), ((mN 6), .inl (g.2.2.1, 132, .inl d_kept))] (pkT [false, true, true, true, true, false, true, false] (MC g mo m_taped d_tape d_r d_st d_undone d_kept m_undos m_images m_hasHouse mI mN mFletters mFfresh mFfrom mFbegin mFmotor mFchange mFstartFrame mFchangeFrame mFlostAt mFblackAt mFslips mFleftArc mFdied mFarcs mFthere mFbackAt mFsorted mFparts) ++ (wX ++ wO)) (pm_M hpm (pk_pick [false, true, true, true, true, false, true, false] [(cO11_i1r1i10r1i2r5i2r12i3r4i2 mo (mI 0) (mN 0) m_taped (mI 1) (mI 2) (mI 3) (mI 4) (mI 5) (mI 6) (mI 7) (mI 8) (mI 9) (mN 1) (mI 10) m_hasHouse (mN 2) (mN 3) (mN 4) (mN 5) (mN 6) m_undos m_images (mN 7) (mN 8) (mN 9) (mN 10) (mN 11) (mN 12) (mN 13) (mN 14) (mN 15) (mN 16) (mN 17) (mN 18) (mI 11) (mI 12) (mI 13) (mN 19) (mN 20) (mN 21) (mN 22) (mI 14) (mI 15)), ((mN 4), .inl (g.2.2.1, 44, .inl d_st)), ((mN 6), .inl (g.2.2.1, 132, .inl d_kept))] rfl (List.Perm.refl _))) (m_imageX l g mo (mI 0) (mN 0) m_taped (mI 1) (mI 2) (mI 3) (mI 4) (mI 5) (mI 6) (mI 7) (mI 8) (mI 9) (mN 1) (mI 10) m_hasHouse (mN 2) (mN 3) (mN 4) (mN 5) (mN 6) m_undos m_images (mN 7) (mN 8) (mN 9) (mN 10) (mN 11) (mN 12) (mN 13) (mN 14) (mN 15) (mN 16) (mN 17) (mN 18) (mI 11) (mI 12) (mI 13) (mN 19) (mN 20) (mN 21) (mN 22) (mI 14) (mI 15) d_st d_kept (iv_w h_m_hasHouse (zle_e rfl) (zle_e rfl)) (iv_w h_m_images (zle_e rfl) (zle_e rfl))) hd hm1 mw1532 mw1533 mw5 mw1534 rfl 11 rfl rfl 0 _ rfl yk_yX11_image_0 rfl hf hlo hst h1 h2 ?_
  rintro r w ⟨m_images2_n, d_kept2_n, m_thrown2_n, m_trouble2_n, iv0, hq0, rfl⟩
  refine k_perm _ pm_backM ?_
  exact kont r d_kept2_n m_images2_n _ (MW_mk (uu (uu mI 0 m_thrown2_n) 9 m_trouble2_n) mN mFletters mFfresh mFfrom mFbegin mFmotor mFchange mFstartFrame mFchangeFrame mFlostAt mFblackAt mFslips mFleftArc mFdied mFarcs mFthere mFbackAt mFsorted mFparts h_m_size h_m_end h_m_nameSize h_m_failed h_m_hasHouse h_m_undos (iv_w iv0 (zle_e rfl) (zle_e rfl)) h_m_taped hRr hRf hTr (pk_back [false, true, true, true, true, false, true, false] [(cO11_i1r1i10r1i2r5i2r12i3r4i2 mo m_thrown2_n (mN 0) m_taped (mI 1) (mI 2) (mI 3) (mI 4) (mI 5) (mI 6) (mI 7) (mI 8) m_trouble2_n (mN 1) (mI 10) m_hasHouse (mN 2) (mN 3) (mN 4) (mN 5) (mN 6) m_undos m_images2_n (mN 7) (mN 8) (mN 9) (mN 10) (mN 11) (mN 12) (mN 13) (mN 14) (mN 15) (mN 16) (mN 17) (mN 18) (mI 11) (mI 12) (mI 13) (mN 19) (mN 20) (mN 21) (mN 22) (mI 14) (mI 15)), ((mN 4), .inl (g.2.2.1, 44, .inl d_st)), ((mN 6), .inl (g.2.2.1, 132, .inl d_kept2_n))] rfl rfl (List.Perm.refl _))) ⟨_, _, hq0⟩

set_option maxHeartbeats 4000000 in
set_option maxRecDepth 100000 in
theorem lx_back {p : Program} {l : Launch} {e : Env} {R : Room} {s : State} {m : MethodId} {args : Array Value} {below : List Frame} {meth : Method} {c : Code} {Q : State → Prop} {A : Nat → Prop} {g : Gx} {cc : ByteArray} {nL n1 n2 pc : Nat} {own : String} {lv : List (Nat × Value)} {st : List Value} {xtpd : Int32} {tpf : Nat → Int32} {yhnf : Nat → Int32} {yhtn : Int32} {yhtf : Nat → Int32} {yhjn : Int32} {yhjf : Nat → Int32} {yhmn : Int32} {yhmf : Nat → Int32} {yhbn : Int32} {yhbf : Nat → Int32} {yhsn : Int32} {yhsf : Nat → Int32} {yhcn : Int32} {yhcf : Nat → Int32} {zrn : Int32} {zmn : Int32} {zwn : Int32} {zpn : Int32} {zmd : Int32} {ztr : Int32} {zrf : Nat → Int32} {zmf : Nat → Int32} {zwf : Nat → Int32} {zpf : Nat → Int32} {kac : Int32} {knx : Int32} {kim : Int32} {cf : Nat → SC} {h0 i : Nat} {wX wY : va_W} (a1 : Int32) (X : Cx p s m meth c args cc nL own A g) (hx : XW g h0 xtpd tpf yhnf yhtn yhtf yhjn yhjf yhmn yhmf yhbn yhbf yhsn yhsf yhcn yhcf zrn zmn zwn zpn zmd ztr zrf zmf zwf zpf kac knx kim cf wX) (hd : decode cc pc = .ok (.invokevirtual i, 3)) (hm1 : Cond.methodLink own i yX10_back ∈ wsL_law0) (hf : 4 + 1 ≤ R.frames) (hlo : 8 + (2 + 11) + 104 ≤ R.locals) (hst : (st.map fun v => v.category).sum ≤ 8) (h1 : n1 ≤ R.cells) (h2 : n2 ≤ R.slots)
    (kont : ∀ (r : Int32) (zrn_2 : Int32) (zmn_2 : Int32) (zwn_2 : Int32) (zpn_2 : Int32) (zmd_2 : Int32) (ztr_2 : Int32) (zrf_2 : Nat → Int32) (zmf_2 : Nat → Int32) (zwf_2 : Nat → Int32) (zpf_2 : Nat → Int32) (kac_2 : Int32) (cf_2 : Nat → SC) (w2 : va_W), XW g h0 xtpd tpf yhnf yhtn yhtf yhjn yhjf yhmn yhmf yhbn yhbf yhsn yhsf yhcn yhcf zrn_2 zmn_2 zwn_2 zpn_2 zmd_2 ztr_2 zrf_2 zmf_2 zwf_2 zpf_2 kac_2 knx kim cf_2 w2 → (∃ tr2 : Int32, R_c_backX a1 zmd ztr zrn zrf zmn zmf zwn zwf zpn zpf kac kim cf tr2 zrf_2 zmf_2 zwf_2 zpf_2 zrn_2 zmn_2 zwn_2 zpn_2 zmd_2 ztr_2 kac_2 cf_2 r) → Wk p l e R s m args below meth c Q A g nL n1 n2 (w2 ++ wY) lv (pc + 3) (.int r :: st)) : Wk p l e R s m args below meth c Q A g nL n1 n2 (wX ++ wY) lv pc ([.int a1] ++ .ref h0 :: st) := by
  refine XW_el hx (fun xN xI0 xI1 xJ1 xG2 xI3 xF3 xI4 xF4 xI5 xF5 xK xI10 xF10 xI11 xF11 xI12 xF12 xI13 xF13 xG13 xJ14 as pl h_xen h_xsta h_xpo h_xtpd h_kac h_knx h_kim hms hPL hkaf hkgf hlen hpm => ?_)
  refine k_callVIP (n := 1) (As := [.int a1]) (st := st) X (HAppend.hAppend (α := va_W) (β := va_W) (γ := va_W) [(cO10_rrrrrrrrri h0 (xN 0) (xN 1) (xN 2) (xN 3) (xN 4) (xN 5) (xN 6) (xN 7) (xN 8) (xI0 0)), ((xN 2), .inr (7, [.ref (xN 60), .ref (xN 61), .ref (xN 62), .ref (xN 63), .int zmd, .int ztr])), ((xN 60), .inr (8, [.int 8, .int 3, .ref (xN 64), .int zrn])), ((xN 64), .inl (g.2.2.1, 24, .inl zrf)), ((xN 61), .inr (8, [.int 12, .int 3, .ref (xN 65), .int zmn])), ((xN 65), .inl (g.2.2.1, 36, .inl zmf)), ((xN 62), .inr (8, [.int 6, .int 3, .ref (xN 66), .int zwn])), ((xN 66), .inl (g.2.2.1, 18, .inl zwf)), ((xN 63), .inr (8, [.int 8, .int 2, .ref (xN 67), .int zpn])), ((xN 67), .inl (g.2.2.1, 16, .inl zpf)), ((xN 3), .inr (4, [.ref (xN 68), .ref (xN 69), .int kac, .int knx, .int kim])), ((xN 69), .inl (g.2.2.2.2.1, 3, .inr (.inr (.inr (.inr (xK 1))))))] pl) (pkT (false :: true :: true :: true :: true :: true :: true :: true :: true :: true :: true :: true :: true :: true :: true :: true :: true :: true :: true :: true :: true :: true :: true :: true :: true :: true :: true :: true :: true :: true :: true :: true :: true :: true :: true :: true :: true :: true :: true :: true :: true :: true :: true :: true :: true :: true :: true :: true :: true :: true :: true :: true :: true :: true :: false :: false :: false :: false :: false :: false :: false :: false :: false :: false :: true :: false :: []) (XC g h0 xtpd tpf yhnf yhtn yhtf yhjn yhjf yhmn yhmf yhbn yhbf yhsn yhsf yhcn yhcf zrn zmn zwn zpn zmd ztr zrf zmf zwf zpf kac knx kim xN xI0 xI1 xJ1 xG2 xI3 xF3 xI4 xF4 xI5 xF5 xK xI10 xF10 xI11 xF11 xI12 xF12 xI13 xF13 xG13 xJ14) ++ wY) (pm_XT hpm (pk_pick (false :: true :: true :: true :: true :: true :: true :: true :: true :: true :: true :: true :: true :: true :: true :: true :: true :: true :: true :: true :: true :: true :: true :: true :: true :: true :: true :: true :: true :: true :: true :: true :: true :: true :: true :: true :: true :: true :: true :: true :: true :: true :: true :: true :: true :: true :: true :: true :: true :: true :: true :: true :: true :: true :: false :: false :: false :: false :: false :: false :: false :: false :: false :: false :: true :: false :: []) [(cO10_rrrrrrrrri h0 (xN 0) (xN 1) (xN 2) (xN 3) (xN 4) (xN 5) (xN 6) (xN 7) (xN 8) (xI0 0)), ((xN 2), .inr (7, [.ref (xN 60), .ref (xN 61), .ref (xN 62), .ref (xN 63), .int zmd, .int ztr])), ((xN 60), .inr (8, [.int 8, .int 3, .ref (xN 64), .int zrn])), ((xN 64), .inl (g.2.2.1, 24, .inl zrf)), ((xN 61), .inr (8, [.int 12, .int 3, .ref (xN 65), .int zmn])), ((xN 65), .inl (g.2.2.1, 36, .inl zmf)), ((xN 62), .inr (8, [.int 6, .int 3, .ref (xN 66), .int zwn])), ((xN 66), .inl (g.2.2.1, 18, .inl zwf)), ((xN 63), .inr (8, [.int 8, .int 2, .ref (xN 67), .int zpn])), ((xN 67), .inl (g.2.2.1, 16, .inl zpf)), ((xN 3), .inr (4, [.ref (xN 68), .ref (xN 69), .int kac, .int knx, .int kim])), ((xN 69), .inl (g.2.2.2.2.1, 3, .inr (.inr (.inr (.inr (xK 1))))))] rfl (List.Perm.refl _))) (c_backX l g h0 a1 (.ref (xN 0)) (.ref (xN 1)) (xN 2) (xN 3) (.ref (xN 4)) (.ref (xN 5)) (.ref (xN 6)) (.ref (xN 7)) (.ref (xN 8)) (xI0 0) (xN 60) (xN 61) (xN 62) (xN 63) zmd ztr (xN 64) zrn zrf (xN 65) zmn zmf (xN 66) zwn zwf (xN 67) zpn zpf (xN 68) (xN 69) kac knx kim (xK 1) as pl cf (iv_w h_kac (zle_e rfl) (zle_e rfl)) (iv_w h_kim (zle_e rfl) (zle_e rfl)) hPL hkgf hlen) hd hm1 mw1536 mw1537 mw2 mw1538 rfl 10 rfl rfl 0 _ rfl yk_yX10_back_1 rfl hf hlo hst h1 h2 ?_
  intro r w zq
  refine exE14 zq ?_
  clear zq
  intro tr2_n zrg_n zmg_n zwg_n zpg_n zrk_n zmk_n zwk_n zpk_n zmd2_n ztr2_n kac2_n cf2_n pl2_n iv0 zq
  refine exA3 zq ?_
  clear zq
  intro iv1 hq0 hq1 zq
  subst zq
  refine k_perm _ pm_backT ?_
  exact kont r zrk_n zmk_n zwk_n zpk_n zmd2_n ztr2_n zrg_n zmg_n zwg_n zpg_n kac2_n cf2_n _ (XW_mk xN (uu xI0 0 tr2_n) xI1 xJ1 xG2 xI3 xF3 xI4 xF4 xI5 xF5 xK xI10 xF10 xI11 xF11 xI12 xF12 xI13 xF13 xG13 xJ14 as pl2_n h_xen h_xsta h_xpo h_xtpd (iv_w iv0 (zle_e rfl) (zle_e rfl)) h_knx h_kim hms hq0 hkaf hkgf hlen (pk_backR (false :: true :: true :: true :: true :: true :: true :: true :: true :: true :: true :: true :: true :: true :: true :: true :: true :: true :: true :: true :: true :: true :: true :: true :: true :: true :: true :: true :: true :: true :: true :: true :: true :: true :: true :: true :: true :: true :: true :: true :: true :: true :: true :: true :: true :: true :: true :: true :: true :: true :: true :: true :: true :: true :: false :: false :: false :: false :: false :: false :: false :: false :: false :: false :: true :: false :: []) [(cO10_rrrrrrrrri h0 (xN 0) (xN 1) (xN 2) (xN 3) (xN 4) (xN 5) (xN 6) (xN 7) (xN 8) tr2_n), ((xN 2), .inr (7, [.ref (xN 60), .ref (xN 61), .ref (xN 62), .ref (xN 63), .int zmd2_n, .int ztr2_n])), ((xN 60), .inr (8, [.int 8, .int 3, .ref (xN 64), .int zrk_n])), ((xN 64), .inl (g.2.2.1, 24, .inl zrg_n)), ((xN 61), .inr (8, [.int 12, .int 3, .ref (xN 65), .int zmk_n])), ((xN 65), .inl (g.2.2.1, 36, .inl zmg_n)), ((xN 62), .inr (8, [.int 6, .int 3, .ref (xN 66), .int zwk_n])), ((xN 66), .inl (g.2.2.1, 18, .inl zwg_n)), ((xN 63), .inr (8, [.int 8, .int 2, .ref (xN 67), .int zpk_n])), ((xN 67), .inl (g.2.2.1, 16, .inl zpg_n)), ((xN 3), .inr (4, [.ref (xN 68), .ref (xN 69), .int kac2_n, .int knx, .int kim])), ((xN 69), .inl (g.2.2.2.2.1, 3, .inr (.inr (.inr (.inr (xK 1))))))] rfl rfl (List.Perm.refl _))) ⟨_, hq1⟩

set_option maxHeartbeats 4000000 in
set_option maxRecDepth 100000 in
theorem lm_back {p : Program} {l : Launch} {e : Env} {R : Room} {s : State} {m : MethodId} {args : Array Value} {below : List Frame} {meth : Method} {c : Code} {Q : State → Prop} {A : Nat → Prop} {g : Gx} {cc : ByteArray} {nL n1 n2 pc : Nat} {own : String} {lv : List (Nat × Value)} {st : List Value} {m_taped : Int32} {d_tape : Nat → Int32} {d_r : Nat → Int32} {d_st : Nat → Int32} {d_undone : Nat → Int32} {d_kept : Nat → Int32} {m_undos : Int32} {m_images : Int32} {m_hasHouse : Int32} {mo i : Nat} {wX wM wO : va_W} (a1 : Int32) (X : Cx p s m meth c args cc nL own A g) (hx : MW g mo m_taped d_tape d_r d_st d_undone d_kept m_undos m_images m_hasHouse wM) (hd : decode cc pc = .ok (.invokevirtual i, 3)) (hm1 : Cond.methodLink own i yX11_back ∈ wsL_law0) (hf : 1 + 1 ≤ R.frames) (hlo : 8 + (2 + 11) + 25 ≤ R.locals) (hst : (st.map fun v => v.category).sum ≤ 8) (h1 : n1 ≤ R.cells) (h2 : n2 ≤ R.slots)
    (kont : ∀ (r : Int32) (d_st_2 : Nat → Int32) (m_undos_2 : Int32) (w2 : va_W), MW g mo m_taped d_tape d_r d_st_2 d_undone d_kept m_undos_2 m_images m_hasHouse w2 → (∃ m_thrown2 : Int32, ∃ m_trouble2 : Int32, R_m_backX a1 m_undos m_images d_st d_kept d_st_2 m_thrown2 m_trouble2 m_undos_2 r) → Wk p l e R s m args below meth c Q A g nL n1 n2 (wX ++ (w2 ++ wO)) lv (pc + 3) (.int r :: st)) : Wk p l e R s m args below meth c Q A g nL n1 n2 (wX ++ (wM ++ wO)) lv pc ([.int a1] ++ .ref mo :: st) := by
  refine MW_el hx (fun mI mN mFletters mFfresh mFfrom mFbegin mFmotor mFchange mFstartFrame mFchangeFrame mFlostAt mFblackAt mFslips mFleftArc mFdied mFarcs mFthere mFbackAt mFsorted mFparts h_m_size h_m_end h_m_nameSize h_m_failed h_m_hasHouse h_m_undos h_m_images h_m_taped hRr hRf hTr hpm => ?_)
  refine k_callVIP (n := 1) (As := [.int a1]) (st := st) X [(cO11_i1r1i10r1i2r5i2r12i3r4i2 mo (mI 0) (mN 0) m_taped (mI 1) (mI 2) (mI 3) (mI 4) (mI 5) (mI 6) (mI 7) (mI 8) (mI 9) (mN 1) (mI 10) m_hasHouse (mN 2) (mN 3) (mN 4) (mN 5) (mN 6) m_undos m_images (mN 7) (mN 8) (mN 9) (mN 10) (mN 11) (mN 12) (mN 13) (mN 14) (mN 15) (mN 16) (mN 17) (mN 18) (mI 11) (mI 12) (mI 13) (mN 19) (mN 20) (mN 21) (mN 22) (mI 14) (mI 15)), ((mN 4), .inl (g.2.2.1, 44, .inl d_st)), ((mN 6), .inl (g.2.2.1, 132, .inl d_kept))] (pkT [false, true, true, true, true, false, true, false] (MC g mo m_taped d_tape d_r d_st d_undone d_kept m_undos m_images m_hasHouse mI mN mFletters mFfresh mFfrom mFbegin mFmotor mFchange mFstartFrame mFchangeFrame mFlostAt mFblackAt mFslips mFleftArc mFdied mFarcs mFthere mFbackAt mFsorted mFparts) ++ (wX ++ wO)) (pm_M hpm (pk_pick [false, true, true, true, true, false, true, false] [(cO11_i1r1i10r1i2r5i2r12i3r4i2 mo (mI 0) (mN 0) m_taped (mI 1) (mI 2) (mI 3) (mI 4) (mI 5) (mI 6) (mI 7) (mI 8) (mI 9) (mN 1) (mI 10) m_hasHouse (mN 2) (mN 3) (mN 4) (mN 5) (mN 6) m_undos m_images (mN 7) (mN 8) (mN 9) (mN 10) (mN 11) (mN 12) (mN 13) (mN 14) (mN 15) (mN 16) (mN 17) (mN 18) (mI 11) (mI 12) (mI 13) (mN 19) (mN 20) (mN 21) (mN 22) (mI 14) (mI 15)), ((mN 4), .inl (g.2.2.1, 44, .inl d_st)), ((mN 6), .inl (g.2.2.1, 132, .inl d_kept))] rfl (List.Perm.refl _))) (m_backX l g mo a1 (mI 0) (mN 0) m_taped (mI 1) (mI 2) (mI 3) (mI 4) (mI 5) (mI 6) (mI 7) (mI 8) (mI 9) (mN 1) (mI 10) m_hasHouse (mN 2) (mN 3) (mN 4) (mN 5) (mN 6) m_undos m_images (mN 7) (mN 8) (mN 9) (mN 10) (mN 11) (mN 12) (mN 13) (mN 14) (mN 15) (mN 16) (mN 17) (mN 18) (mI 11) (mI 12) (mI 13) (mN 19) (mN 20) (mN 21) (mN 22) (mI 14) (mI 15) d_st d_kept (iv_w h_m_undos (zle_e rfl) (zle_e rfl)) (iv_w h_m_images (zle_e rfl) (zle_e rfl))) hd hm1 mw1544 mw1545 mw5 mw1546 rfl 11 rfl rfl 0 _ rfl yk_yX11_back_1 rfl hf hlo hst h1 h2 ?_
  rintro r w ⟨d_st2_n, m_thrown2_n, m_trouble2_n, m_undos2_n, iv0, iv1, hq0, rfl⟩
  refine k_perm _ pm_backM ?_
  exact kont r d_st2_n m_undos2_n _ (MW_mk (uu (uu mI 0 m_thrown2_n) 9 m_trouble2_n) mN mFletters mFfresh mFfrom mFbegin mFmotor mFchange mFstartFrame mFchangeFrame mFlostAt mFblackAt mFslips mFleftArc mFdied mFarcs mFthere mFbackAt mFsorted mFparts h_m_size h_m_end h_m_nameSize h_m_failed h_m_hasHouse (iv_w iv0 (zle_e rfl) (zle_e rfl)) h_m_images h_m_taped hRr hRf hTr (pk_back [false, true, true, true, true, false, true, false] [(cO11_i1r1i10r1i2r5i2r12i3r4i2 mo m_thrown2_n (mN 0) m_taped (mI 1) (mI 2) (mI 3) (mI 4) (mI 5) (mI 6) (mI 7) (mI 8) m_trouble2_n (mN 1) (mI 10) m_hasHouse (mN 2) (mN 3) (mN 4) (mN 5) (mN 6) m_undos2_n m_images (mN 7) (mN 8) (mN 9) (mN 10) (mN 11) (mN 12) (mN 13) (mN 14) (mN 15) (mN 16) (mN 17) (mN 18) (mI 11) (mI 12) (mI 13) (mN 19) (mN 20) (mN 21) (mN 22) (mI 14) (mI 15)), ((mN 4), .inl (g.2.2.1, 44, .inl d_st2_n)), ((mN 6), .inl (g.2.2.1, 132, .inl d_kept))] rfl rfl (List.Perm.refl _))) ⟨_, _, hq0⟩

set_option maxHeartbeats 4000000 in
set_option maxRecDepth 100000 in
theorem lm_led {p : Program} {l : Launch} {e : Env} {R : Room} {s : State} {m : MethodId} {args : Array Value} {below : List Frame} {meth : Method} {c : Code} {Q : State → Prop} {A : Nat → Prop} {g : Gx} {cc : ByteArray} {nL n1 n2 pc : Nat} {own : String} {lv : List (Nat × Value)} {st : List Value} {m_taped : Int32} {d_tape : Nat → Int32} {d_r : Nat → Int32} {d_st : Nat → Int32} {d_undone : Nat → Int32} {d_kept : Nat → Int32} {m_undos : Int32} {m_images : Int32} {m_hasHouse : Int32} {mo i : Nat} {wX wM wO : va_W} (a1 : Int32) (X : Cx p s m meth c args cc nL own A g) (hx : MW g mo m_taped d_tape d_r d_st d_undone d_kept m_undos m_images m_hasHouse wM) (hd : decode cc pc = .ok (.invokevirtual i, 3)) (hm1 : Cond.methodLink own i yX11_led ∈ wsL_law0) (hf : 2 + 1 ≤ R.frames) (hlo : 8 + (4 + 11) + 42 ≤ R.locals) (hst : (st.map fun v => v.category).sum ≤ 8) (h1 : n1 ≤ R.cells) (h2 : n2 ≤ R.slots)
    (kont : ∀ (r : Int32)  (w2 : va_W), MW g mo m_taped d_tape d_r d_st d_undone d_kept m_undos m_images m_hasHouse w2 → Wk p l e R s m args below meth c Q A g nL n1 n2 (wX ++ (w2 ++ wO)) lv (pc + 3) (.int r :: st)) : Wk p l e R s m args below meth c Q A g nL n1 n2 (wX ++ (wM ++ wO)) lv pc ([.int a1] ++ .ref mo :: st) := by
  refine MW_el hx (fun mI mN mFletters mFfresh mFfrom mFbegin mFmotor mFchange mFstartFrame mFchangeFrame mFlostAt mFblackAt mFslips mFleftArc mFdied mFarcs mFthere mFbackAt mFsorted mFparts h_m_size h_m_end h_m_nameSize h_m_failed h_m_hasHouse h_m_undos h_m_images h_m_taped hRr hRf hTr hpm => ?_)
  refine k_callVIP (n := 1) (As := [.int a1]) (st := st) X [(cO11_i1r1i10r1i2r5i2r12i3r4i2 mo (mI 0) (mN 0) m_taped (mI 1) (mI 2) (mI 3) (mI 4) (mI 5) (mI 6) (mI 7) (mI 8) (mI 9) (mN 1) (mI 10) m_hasHouse (mN 2) (mN 3) (mN 4) (mN 5) (mN 6) m_undos m_images (mN 7) (mN 8) (mN 9) (mN 10) (mN 11) (mN 12) (mN 13) (mN 14) (mN 15) (mN 16) (mN 17) (mN 18) (mI 11) (mI 12) (mI 13) (mN 19) (mN 20) (mN 21) (mN 22) (mI 14) (mI 15)), ((mN 2), .inl (g.2.2.1, 311, .inl d_r)), ((mN 4), .inl (g.2.2.1, 44, .inl d_st))] (pkT [false, true, true, false, true, false] (MC g mo m_taped d_tape d_r d_st d_undone d_kept m_undos m_images m_hasHouse mI mN mFletters mFfresh mFfrom mFbegin mFmotor mFchange mFstartFrame mFchangeFrame mFlostAt mFblackAt mFslips mFleftArc mFdied mFarcs mFthere mFbackAt mFsorted mFparts) ++ (wX ++ wO)) (pm_M hpm (pk_pick [false, true, true, false, true, false] [(cO11_i1r1i10r1i2r5i2r12i3r4i2 mo (mI 0) (mN 0) m_taped (mI 1) (mI 2) (mI 3) (mI 4) (mI 5) (mI 6) (mI 7) (mI 8) (mI 9) (mN 1) (mI 10) m_hasHouse (mN 2) (mN 3) (mN 4) (mN 5) (mN 6) m_undos m_images (mN 7) (mN 8) (mN 9) (mN 10) (mN 11) (mN 12) (mN 13) (mN 14) (mN 15) (mN 16) (mN 17) (mN 18) (mI 11) (mI 12) (mI 13) (mN 19) (mN 20) (mN 21) (mN 22) (mI 14) (mI 15)), ((mN 2), .inl (g.2.2.1, 311, .inl d_r)), ((mN 4), .inl (g.2.2.1, 44, .inl d_st))] rfl (List.Perm.refl _))) (m_led l g mo a1 (mI 0) (mN 0) m_taped (mI 1) (mI 2) (mI 3) (mI 4) (mI 5) (mI 6) (mI 7) (mI 8) (mI 9) (mN 1) (mI 10) m_hasHouse (mN 2) (mN 3) (mN 4) (mN 5) (mN 6) m_undos m_images (mN 7) (mN 8) (mN 9) (mN 10) (mN 11) (mN 12) (mN 13) (mN 14) (mN 15) (mN 16) (mN 17) (mN 18) (mI 11) (mI 12) (mI 13) (mN 19) (mN 20) (mN 21) (mN 22) (mI 14) (mI 15) d_r d_st (iv_w h_m_hasHouse (zle_e rfl) (zle_e rfl)) hRr) hd hm1 mw1559 mw1560 mw5 mw1561 rfl 11 rfl rfl 0 _ rfl yk_yX11_led_1 rfl hf hlo hst h1 h2 ?_
  rintro r w ⟨m_thrown2_n, rfl⟩
  refine k_perm _ pm_backM ?_
  exact kont r _ (MW_mk (uu mI 0 m_thrown2_n) mN mFletters mFfresh mFfrom mFbegin mFmotor mFchange mFstartFrame mFchangeFrame mFlostAt mFblackAt mFslips mFleftArc mFdied mFarcs mFthere mFbackAt mFsorted mFparts h_m_size h_m_end h_m_nameSize h_m_failed h_m_hasHouse h_m_undos h_m_images h_m_taped hRr hRf hTr (pk_back [false, true, true, false, true, false] [(cO11_i1r1i10r1i2r5i2r12i3r4i2 mo m_thrown2_n (mN 0) m_taped (mI 1) (mI 2) (mI 3) (mI 4) (mI 5) (mI 6) (mI 7) (mI 8) (mI 9) (mN 1) (mI 10) m_hasHouse (mN 2) (mN 3) (mN 4) (mN 5) (mN 6) m_undos m_images (mN 7) (mN 8) (mN 9) (mN 10) (mN 11) (mN 12) (mN 13) (mN 14) (mN 15) (mN 16) (mN 17) (mN 18) (mI 11) (mI 12) (mI 13) (mN 19) (mN 20) (mN 21) (mN 22) (mI 14) (mI 15)), ((mN 2), .inl (g.2.2.1, 311, .inl d_r)), ((mN 4), .inl (g.2.2.1, 44, .inl d_st))] rfl rfl (List.Perm.refl _)))

set_option maxHeartbeats 4000000 in
set_option maxRecDepth 100000 in
theorem lx_size {p : Program} {l : Launch} {e : Env} {R : Room} {s : State} {m : MethodId} {args : Array Value} {below : List Frame} {meth : Method} {c : Code} {Q : State → Prop} {A : Nat → Prop} {g : Gx} {cc : ByteArray} {nL n1 n2 pc : Nat} {own : String} {lv : List (Nat × Value)} {st : List Value} {xtpd : Int32} {tpf : Nat → Int32} {yhnf : Nat → Int32} {yhtn : Int32} {yhtf : Nat → Int32} {yhjn : Int32} {yhjf : Nat → Int32} {yhmn : Int32} {yhmf : Nat → Int32} {yhbn : Int32} {yhbf : Nat → Int32} {yhsn : Int32} {yhsf : Nat → Int32} {yhcn : Int32} {yhcf : Nat → Int32} {zrn : Int32} {zmn : Int32} {zwn : Int32} {zpn : Int32} {zmd : Int32} {ztr : Int32} {zrf : Nat → Int32} {zmf : Nat → Int32} {zwf : Nat → Int32} {zpf : Nat → Int32} {kac : Int32} {knx : Int32} {kim : Int32} {cf : Nat → SC} {h0 i : Nat} {wX wY : va_W} (a1 : Int32) (X : Cx p s m meth c args cc nL own A g) (hx : XW g h0 xtpd tpf yhnf yhtn yhtf yhjn yhjf yhmn yhmf yhbn yhbf yhsn yhsf yhcn yhcf zrn zmn zwn zpn zmd ztr zrf zmf zwf zpf kac knx kim cf wX) (hd : decode cc pc = .ok (.invokevirtual i, 3)) (hm1 : Cond.methodLink own i yX10_size ∈ wsL_law0) (hf : 2 + 1 ≤ R.frames) (hlo : 8 + (2 + 11) + 43 ≤ R.locals) (hst : (st.map fun v => v.category).sum ≤ 8) (h1 : n1 ≤ R.cells) (h2 : n2 ≤ R.slots)
    (kont : ∀ (r : Int32)  (w2 : va_W), XW g h0 xtpd tpf yhnf yhtn yhtf yhjn yhjf yhmn yhmf yhbn yhbf yhsn yhsf yhcn yhcf zrn zmn zwn zpn zmd ztr zrf zmf zwf zpf kac knx kim cf w2 → Wk p l e R s m args below meth c Q A g nL n1 n2 (w2 ++ wY) lv (pc + 3) (.int r :: st)) : Wk p l e R s m args below meth c Q A g nL n1 n2 (wX ++ wY) lv pc ([.int a1] ++ .ref h0 :: st) := by
  refine XW_el hx (fun xN xI0 xI1 xJ1 xG2 xI3 xF3 xI4 xF4 xI5 xF5 xK xI10 xF10 xI11 xF11 xI12 xF12 xI13 xF13 xG13 xJ14 as pl h_xen h_xsta h_xpo h_xtpd h_kac h_knx h_kim hms hPL hkaf hkgf hlen hpm => ?_)
  refine k_callVIP (n := 1) (As := [.int a1]) (st := st) X ((cO10_rrrrrrrrri h0 (xN 0) (xN 1) (xN 2) (xN 3) (xN 4) (xN 5) (xN 6) (xN 7) (xN 8) (xI0 0)) :: ((xN 0), .inr (9, [.int xtpd, .ref (xN 9), .int (xI1 0), .int (xI1 1), .ref (xN 10), .int (xI1 2), .ref (xN 11), .ref (xN 12), .int (xI1 3), .int (xI1 4), .int (xI1 5), .int (xI1 6), .long (xJ1 0), .int (xI1 7), .int (xI1 8)])) :: ((xN 10), .inl (g.2.1, 900, .inl tpf)) :: ((xN 1), .inr (3, [.ref (xN 37), .ref (xN 38), .ref (xN 39), .ref (xN 40), .ref (xN 41), .ref (xN 42), .ref (xN 43), .ref (xN 44)])) :: ((xN 37), .inr (7, [.ref (xN 45), .ref (xN 46), .ref (xN 47), .ref (xN 48), .int (xI5 0), .int (xI5 1)])) :: ((xN 45), .inr (8, [.int 8, .int 3, .ref (xN 49), .int (xI5 2)])) :: ((xN 49), .inl (g.2.2.1, 24, .inl (xF5 0))) :: ((xN 46), .inr (8, [.int 12, .int 3, .ref (xN 50), .int (xI5 3)])) :: ((xN 50), .inl (g.2.2.1, 36, .inl (xF5 1))) :: ((xN 47), .inr (8, [.int 6, .int 3, .ref (xN 51), .int (xI5 4)])) :: ((xN 51), .inl (g.2.2.1, 18, .inl (xF5 2))) :: ((xN 48), .inr (8, [.int 8, .int 2, .ref (xN 52), .int (xI5 5)])) :: ((xN 52), .inl (g.2.2.1, 16, .inl (xF5 3))) :: ((xN 38), .inr (8, [.int 1, .int 6, .ref (xN 53), .int (xI5 6)])) :: ((xN 53), .inl (g.2.2.1, 6, .inl yhnf)) :: ((xN 39), .inr (8, [.int 4, .int 1, .ref (xN 54), .int yhtn])) :: ((xN 54), .inl (g.2.2.1, 4, .inl yhtf)) :: ((xN 40), .inr (8, [.int 8, .int 2, .ref (xN 55), .int yhjn])) :: ((xN 55), .inl (g.2.2.1, 16, .inl yhjf)) :: ((xN 41), .inr (8, [.int 4, .int 3, .ref (xN 56), .int yhmn])) :: ((xN 56), .inl (g.2.2.1, 12, .inl yhmf)) :: ((xN 42), .inr (8, [.int 1, .int 3, .ref (xN 57), .int yhbn])) :: ((xN 57), .inl (g.2.2.1, 3, .inl yhbf)) :: ((xN 43), .inr (8, [.int 6, .int 3, .ref (xN 58), .int yhsn])) :: ((xN 58), .inl (g.2.2.1, 18, .inl yhsf)) :: ((xN 44), .inr (8, [.int 6, .int 2, .ref (xN 59), .int yhcn])) :: ((xN 59), .inl (g.2.2.1, 12, .inl yhcf)) :: ((xN 2), .inr (7, [.ref (xN 60), .ref (xN 61), .ref (xN 62), .ref (xN 63), .int zmd, .int ztr])) :: ((xN 60), .inr (8, [.int 8, .int 3, .ref (xN 64), .int zrn])) :: ((xN 64), .inl (g.2.2.1, 24, .inl zrf)) :: ((xN 61), .inr (8, [.int 12, .int 3, .ref (xN 65), .int zmn])) :: ((xN 65), .inl (g.2.2.1, 36, .inl zmf)) :: ((xN 62), .inr (8, [.int 6, .int 3, .ref (xN 66), .int zwn])) :: ((xN 66), .inl (g.2.2.1, 18, .inl zwf)) :: ((xN 63), .inr (8, [.int 8, .int 2, .ref (xN 67), .int zpn])) :: ((xN 67), .inl (g.2.2.1, 16, .inl zpf)) :: ((xN 3), .inr (4, [.ref (xN 68), .ref (xN 69), .int kac, .int knx, .int kim])) :: []) (pkT (false :: false :: false :: true :: true :: true :: true :: true :: true :: true :: true :: true :: true :: true :: true :: true :: true :: true :: true :: true :: true :: true :: true :: true :: true :: true :: true :: true :: true :: true :: false :: false :: false :: false :: false :: false :: false :: false :: false :: false :: false :: false :: false :: false :: false :: false :: false :: false :: false :: false :: false :: false :: false :: false :: false :: false :: false :: false :: false :: false :: false :: false :: false :: false :: []) (XC g h0 xtpd tpf yhnf yhtn yhtf yhjn yhjf yhmn yhmf yhbn yhbf yhsn yhsf yhcn yhcf zrn zmn zwn zpn zmd ztr zrf zmf zwf zpf kac knx kim xN xI0 xI1 xJ1 xG2 xI3 xF3 xI4 xF4 xI5 xF5 xK xI10 xF10 xI11 xF11 xI12 xF12 xI13 xF13 xG13 xJ14) ++ (pl ++ wY)) (pm_X hpm (pk_pick (false :: false :: false :: true :: true :: true :: true :: true :: true :: true :: true :: true :: true :: true :: true :: true :: true :: true :: true :: true :: true :: true :: true :: true :: true :: true :: true :: true :: true :: true :: false :: false :: false :: false :: false :: false :: false :: false :: false :: false :: false :: false :: false :: false :: false :: false :: false :: false :: false :: false :: false :: false :: false :: false :: false :: false :: false :: false :: false :: false :: false :: false :: false :: false :: []) ((cO10_rrrrrrrrri h0 (xN 0) (xN 1) (xN 2) (xN 3) (xN 4) (xN 5) (xN 6) (xN 7) (xN 8) (xI0 0)) :: ((xN 0), .inr (9, [.int xtpd, .ref (xN 9), .int (xI1 0), .int (xI1 1), .ref (xN 10), .int (xI1 2), .ref (xN 11), .ref (xN 12), .int (xI1 3), .int (xI1 4), .int (xI1 5), .int (xI1 6), .long (xJ1 0), .int (xI1 7), .int (xI1 8)])) :: ((xN 10), .inl (g.2.1, 900, .inl tpf)) :: ((xN 1), .inr (3, [.ref (xN 37), .ref (xN 38), .ref (xN 39), .ref (xN 40), .ref (xN 41), .ref (xN 42), .ref (xN 43), .ref (xN 44)])) :: ((xN 37), .inr (7, [.ref (xN 45), .ref (xN 46), .ref (xN 47), .ref (xN 48), .int (xI5 0), .int (xI5 1)])) :: ((xN 45), .inr (8, [.int 8, .int 3, .ref (xN 49), .int (xI5 2)])) :: ((xN 49), .inl (g.2.2.1, 24, .inl (xF5 0))) :: ((xN 46), .inr (8, [.int 12, .int 3, .ref (xN 50), .int (xI5 3)])) :: ((xN 50), .inl (g.2.2.1, 36, .inl (xF5 1))) :: ((xN 47), .inr (8, [.int 6, .int 3, .ref (xN 51), .int (xI5 4)])) :: ((xN 51), .inl (g.2.2.1, 18, .inl (xF5 2))) :: ((xN 48), .inr (8, [.int 8, .int 2, .ref (xN 52), .int (xI5 5)])) :: ((xN 52), .inl (g.2.2.1, 16, .inl (xF5 3))) :: ((xN 38), .inr (8, [.int 1, .int 6, .ref (xN 53), .int (xI5 6)])) :: ((xN 53), .inl (g.2.2.1, 6, .inl yhnf)) :: ((xN 39), .inr (8, [.int 4, .int 1, .ref (xN 54), .int yhtn])) :: ((xN 54), .inl (g.2.2.1, 4, .inl yhtf)) :: ((xN 40), .inr (8, [.int 8, .int 2, .ref (xN 55), .int yhjn])) :: ((xN 55), .inl (g.2.2.1, 16, .inl yhjf)) :: ((xN 41), .inr (8, [.int 4, .int 3, .ref (xN 56), .int yhmn])) :: ((xN 56), .inl (g.2.2.1, 12, .inl yhmf)) :: ((xN 42), .inr (8, [.int 1, .int 3, .ref (xN 57), .int yhbn])) :: ((xN 57), .inl (g.2.2.1, 3, .inl yhbf)) :: ((xN 43), .inr (8, [.int 6, .int 3, .ref (xN 58), .int yhsn])) :: ((xN 58), .inl (g.2.2.1, 18, .inl yhsf)) :: ((xN 44), .inr (8, [.int 6, .int 2, .ref (xN 59), .int yhcn])) :: ((xN 59), .inl (g.2.2.1, 12, .inl yhcf)) :: ((xN 2), .inr (7, [.ref (xN 60), .ref (xN 61), .ref (xN 62), .ref (xN 63), .int zmd, .int ztr])) :: ((xN 60), .inr (8, [.int 8, .int 3, .ref (xN 64), .int zrn])) :: ((xN 64), .inl (g.2.2.1, 24, .inl zrf)) :: ((xN 61), .inr (8, [.int 12, .int 3, .ref (xN 65), .int zmn])) :: ((xN 65), .inl (g.2.2.1, 36, .inl zmf)) :: ((xN 62), .inr (8, [.int 6, .int 3, .ref (xN 66), .int zwn])) :: ((xN 66), .inl (g.2.2.1, 18, .inl zwf)) :: ((xN 63), .inr (8, [.int 8, .int 2, .ref (xN 67), .int zpn])) :: ((xN 67), .inl (g.2.2.1, 16, .inl zpf)) :: ((xN 3), .inr (4, [.ref (xN 68), .ref (xN 69), .int kac, .int knx, .int kim])) :: []) rfl (List.Perm.refl _))) (c_size l g h0 a1 (xN 0) (xN 1) (xN 2) (xN 3) (.ref (xN 4)) (.ref (xN 5)) (.ref (xN 6)) (.ref (xN 7)) (.ref (xN 8)) (xI0 0) xtpd (xN 9) (xI1 0) (xI1 1) (xN 10) (xI1 2) (xN 11) (xN 12) (xI1 3) (xI1 4) (xI1 5) (xI1 6) (xJ1 0) (xI1 7) (xI1 8) tpf (xN 37) (xN 38) (xN 39) (xN 40) (xN 41) (xN 42) (xN 43) (xN 44) (xN 45) (xN 46) (xN 47) (xN 48) (xI5 0) (xI5 1) (xN 49) (xI5 2) (xF5 0) (xN 50) (xI5 3) (xF5 1) (xN 51) (xI5 4) (xF5 2) (xN 52) (xI5 5) (xF5 3) (xN 53) (xI5 6) yhnf (xN 54) yhtn yhtf (xN 55) yhjn yhjf (xN 56) yhmn yhmf (xN 57) yhbn yhbf (xN 58) yhsn yhsf (xN 59) yhcn yhcf (xN 60) (xN 61) (xN 62) (xN 63) zmd ztr (xN 64) zrn zrf (xN 65) zmn zmf (xN 66) zwn zwf (xN 67) zpn zpf (xN 68) (xN 69) kac knx kim) hd hm1 mw1563 mw1564 mw2 mw1565 rfl 10 rfl rfl 0 _ rfl yk_yX10_size_1 rfl hf hlo hst h1 h2 ?_
  rintro r w rfl
  refine k_perm _ pm_backX ?_
  exact kont r _ (XW_mk xN xI0 xI1 xJ1 xG2 xI3 xF3 xI4 xF4 xI5 xF5 xK xI10 xF10 xI11 xF11 xI12 xF12 xI13 xF13 xG13 xJ14 as pl h_xen h_xsta h_xpo h_xtpd h_kac h_knx h_kim hms hPL hkaf hkgf hlen (pk_backR2 (false :: false :: false :: true :: true :: true :: true :: true :: true :: true :: true :: true :: true :: true :: true :: true :: true :: true :: true :: true :: true :: true :: true :: true :: true :: true :: true :: true :: true :: true :: false :: false :: false :: false :: false :: false :: false :: false :: false :: false :: false :: false :: false :: false :: false :: false :: false :: false :: false :: false :: false :: false :: false :: false :: false :: false :: false :: false :: false :: false :: false :: false :: false :: false :: []) ((cO10_rrrrrrrrri h0 (xN 0) (xN 1) (xN 2) (xN 3) (xN 4) (xN 5) (xN 6) (xN 7) (xN 8) (xI0 0)) :: ((xN 0), .inr (9, [.int xtpd, .ref (xN 9), .int (xI1 0), .int (xI1 1), .ref (xN 10), .int (xI1 2), .ref (xN 11), .ref (xN 12), .int (xI1 3), .int (xI1 4), .int (xI1 5), .int (xI1 6), .long (xJ1 0), .int (xI1 7), .int (xI1 8)])) :: ((xN 10), .inl (g.2.1, 900, .inl tpf)) :: ((xN 1), .inr (3, [.ref (xN 37), .ref (xN 38), .ref (xN 39), .ref (xN 40), .ref (xN 41), .ref (xN 42), .ref (xN 43), .ref (xN 44)])) :: ((xN 37), .inr (7, [.ref (xN 45), .ref (xN 46), .ref (xN 47), .ref (xN 48), .int (xI5 0), .int (xI5 1)])) :: ((xN 45), .inr (8, [.int 8, .int 3, .ref (xN 49), .int (xI5 2)])) :: ((xN 49), .inl (g.2.2.1, 24, .inl (xF5 0))) :: ((xN 46), .inr (8, [.int 12, .int 3, .ref (xN 50), .int (xI5 3)])) :: ((xN 50), .inl (g.2.2.1, 36, .inl (xF5 1))) :: ((xN 47), .inr (8, [.int 6, .int 3, .ref (xN 51), .int (xI5 4)])) :: ((xN 51), .inl (g.2.2.1, 18, .inl (xF5 2))) :: ((xN 48), .inr (8, [.int 8, .int 2, .ref (xN 52), .int (xI5 5)])) :: ((xN 52), .inl (g.2.2.1, 16, .inl (xF5 3))) :: ((xN 38), .inr (8, [.int 1, .int 6, .ref (xN 53), .int (xI5 6)])) :: ((xN 53), .inl (g.2.2.1, 6, .inl yhnf)) :: ((xN 39), .inr (8, [.int 4, .int 1, .ref (xN 54), .int yhtn])) :: ((xN 54), .inl (g.2.2.1, 4, .inl yhtf)) :: ((xN 40), .inr (8, [.int 8, .int 2, .ref (xN 55), .int yhjn])) :: ((xN 55), .inl (g.2.2.1, 16, .inl yhjf)) :: ((xN 41), .inr (8, [.int 4, .int 3, .ref (xN 56), .int yhmn])) :: ((xN 56), .inl (g.2.2.1, 12, .inl yhmf)) :: ((xN 42), .inr (8, [.int 1, .int 3, .ref (xN 57), .int yhbn])) :: ((xN 57), .inl (g.2.2.1, 3, .inl yhbf)) :: ((xN 43), .inr (8, [.int 6, .int 3, .ref (xN 58), .int yhsn])) :: ((xN 58), .inl (g.2.2.1, 18, .inl yhsf)) :: ((xN 44), .inr (8, [.int 6, .int 2, .ref (xN 59), .int yhcn])) :: ((xN 59), .inl (g.2.2.1, 12, .inl yhcf)) :: ((xN 2), .inr (7, [.ref (xN 60), .ref (xN 61), .ref (xN 62), .ref (xN 63), .int zmd, .int ztr])) :: ((xN 60), .inr (8, [.int 8, .int 3, .ref (xN 64), .int zrn])) :: ((xN 64), .inl (g.2.2.1, 24, .inl zrf)) :: ((xN 61), .inr (8, [.int 12, .int 3, .ref (xN 65), .int zmn])) :: ((xN 65), .inl (g.2.2.1, 36, .inl zmf)) :: ((xN 62), .inr (8, [.int 6, .int 3, .ref (xN 66), .int zwn])) :: ((xN 66), .inl (g.2.2.1, 18, .inl zwf)) :: ((xN 63), .inr (8, [.int 8, .int 2, .ref (xN 67), .int zpn])) :: ((xN 67), .inl (g.2.2.1, 16, .inl zpf)) :: ((xN 3), .inr (4, [.ref (xN 68), .ref (xN 69), .int kac, .int knx, .int kim])) :: []) (((xN 11), .inl (g.2.2.2.1, 16, .inr (.inl (xG2 0)))) :: ((xN 12), .inr (8, [.int 16, .int 2, .ref (xN 13), .int (xI3 0)])) :: ((xN 13), .inl (g.2.2.1, 32, .inl (xF3 0))) :: ((xN 9), .inr (3, [.ref (xN 14), .ref (xN 15), .ref (xN 16), .ref (xN 17), .ref (xN 18), .ref (xN 19), .ref (xN 20), .ref (xN 21)])) :: ((xN 14), .inr (7, [.ref (xN 22), .ref (xN 23), .ref (xN 24), .ref (xN 25), .int (xI4 0), .int (xI4 1)])) :: ((xN 22), .inr (8, [.int 8, .int 3, .ref (xN 26), .int (xI4 2)])) :: ((xN 26), .inl (g.2.2.1, 24, .inl (xF4 0))) :: ((xN 23), .inr (8, [.int 12, .int 3, .ref (xN 27), .int (xI4 3)])) :: ((xN 27), .inl (g.2.2.1, 36, .inl (xF4 1))) :: ((xN 24), .inr (8, [.int 6, .int 3, .ref (xN 28), .int (xI4 4)])) :: ((xN 28), .inl (g.2.2.1, 18, .inl (xF4 2))) :: ((xN 25), .inr (8, [.int 8, .int 2, .ref (xN 29), .int (xI4 5)])) :: ((xN 29), .inl (g.2.2.1, 16, .inl (xF4 3))) :: ((xN 15), .inr (8, [.int 1, .int 6, .ref (xN 30), .int (xI4 6)])) :: ((xN 30), .inl (g.2.2.1, 6, .inl (xF4 4))) :: ((xN 16), .inr (8, [.int 4, .int 1, .ref (xN 31), .int (xI4 7)])) :: ((xN 31), .inl (g.2.2.1, 4, .inl (xF4 5))) :: ((xN 17), .inr (8, [.int 8, .int 2, .ref (xN 32), .int (xI4 8)])) :: ((xN 32), .inl (g.2.2.1, 16, .inl (xF4 6))) :: ((xN 18), .inr (8, [.int 4, .int 3, .ref (xN 33), .int (xI4 9)])) :: ((xN 33), .inl (g.2.2.1, 12, .inl (xF4 7))) :: ((xN 19), .inr (8, [.int 1, .int 3, .ref (xN 34), .int (xI4 10)])) :: ((xN 34), .inl (g.2.2.1, 3, .inl (xF4 8))) :: ((xN 20), .inr (8, [.int 6, .int 3, .ref (xN 35), .int (xI4 11)])) :: ((xN 35), .inl (g.2.2.1, 18, .inl (xF4 9))) :: ((xN 21), .inr (8, [.int 6, .int 2, .ref (xN 36), .int (xI4 12)])) :: ((xN 36), .inl (g.2.2.1, 12, .inl (xF4 10))) :: ((xN 68), .inl (g.2.2.2.2.1, 12, .inr (.inr (.inr (.inr (xK 0)))))) :: ((xN 69), .inl (g.2.2.2.2.1, 3, .inr (.inr (.inr (.inr (xK 1)))))) :: ((xN 4), .inr (5, [.ref (xN 70), .int (xI10 0), .int (xI10 1), .int (xI10 2), .int (xI10 3), .int (xI10 4), .int (xI10 5), .int (xI10 6), .int (xI10 7)])) :: ((xN 70), .inr (8, [.int 8, .int 10, .ref (xN 71), .int (xI10 8)])) :: ((xN 71), .inl (g.2.2.1, 80, .inl (xF10 0))) :: ((xN 5), .inr (0, [.ref (xN 72), .int (xI11 0)])) :: ((xN 72), .inr (8, [.int 8, .int 1, .ref (xN 73), .int (xI11 1)])) :: ((xN 73), .inl (g.2.2.1, 8, .inl (xF11 0))) :: ((xN 6), .inr (6, [.ref (xN 74), .int (xI12 0), .int (xI12 1)])) :: ((xN 74), .inr (8, [.int 4, .int 1, .ref (xN 75), .int (xI12 2)])) :: ((xN 75), .inl (g.2.2.1, 4, .inl (xF12 0))) :: ((xN 7), .inr (1, [.ref (xN 76), .ref (xN 77), .ref (xN 78)])) :: ((xN 76), .inr (8, [.int 8, .int 1, .ref (xN 79), .int (xI13 0)])) :: ((xN 79), .inl (g.2.2.1, 8, .inl (xF13 0))) :: ((xN 77), .inr (8, [.int 256, .int 1, .ref (xN 80), .int (xI13 1)])) :: ((xN 80), .inl (g.2.2.1, 256, .inl (xF13 1))) :: ((xN 78), .inl (g.2.2.2.1, 8, .inr (.inl (xG13 0)))) :: ((xN 8), .inr (2, [.long (xJ14 0), .long (xJ14 1)])) :: []) rfl rfl rfl (List.Perm.refl _)))

set_option maxHeartbeats 4000000 in
set_option maxRecDepth 100000 in
theorem lm_size {p : Program} {l : Launch} {e : Env} {R : Room} {s : State} {m : MethodId} {args : Array Value} {below : List Frame} {meth : Method} {c : Code} {Q : State → Prop} {A : Nat → Prop} {g : Gx} {cc : ByteArray} {nL n1 n2 pc : Nat} {own : String} {lv : List (Nat × Value)} {st : List Value} {m_taped : Int32} {d_tape : Nat → Int32} {d_r : Nat → Int32} {d_st : Nat → Int32} {d_undone : Nat → Int32} {d_kept : Nat → Int32} {m_undos : Int32} {m_images : Int32} {m_hasHouse : Int32} {mo i : Nat} {wX wM wO : va_W} (a1 : Int32) (X : Cx p s m meth c args cc nL own A g) (hx : MW g mo m_taped d_tape d_r d_st d_undone d_kept m_undos m_images m_hasHouse wM) (hd : decode cc pc = .ok (.invokevirtual i, 3)) (hm1 : Cond.methodLink own i yX11_size ∈ wsL_law0) (hf : 1 + 1 ≤ R.frames) (hlo : 8 + (2 + 11) + 22 ≤ R.locals) (hst : (st.map fun v => v.category).sum ≤ 8) (h1 : n1 ≤ R.cells) (h2 : n2 ≤ R.slots)
    (kont : ∀ (r : Int32)  (w2 : va_W), MW g mo m_taped d_tape d_r d_st d_undone d_kept m_undos m_images m_hasHouse w2 → Wk p l e R s m args below meth c Q A g nL n1 n2 (wX ++ (w2 ++ wO)) lv (pc + 3) (.int r :: st)) : Wk p l e R s m args below meth c Q A g nL n1 n2 (wX ++ (wM ++ wO)) lv pc ([.int a1] ++ .ref mo :: st) := by
  refine MW_el hx (fun mI mN mFletters mFfresh mFfrom mFbegin mFmotor mFchange mFstartFrame mFchangeFrame mFlostAt mFblackAt mFslips mFleftArc mFdied mFarcs mFthere mFbackAt mFsorted mFparts h_m_size h_m_end h_m_nameSize h_m_failed h_m_hasHouse h_m_undos h_m_images h_m_taped hRr hRf hTr hpm => ?_)
  refine k_callVIP (n := 1) (As := [.int a1]) (st := st) X [(cO11_i1r1i10r1i2r5i2r12i3r4i2 mo (mI 0) (mN 0) m_taped (mI 1) (mI 2) (mI 3) (mI 4) (mI 5) (mI 6) (mI 7) (mI 8) (mI 9) (mN 1) (mI 10) m_hasHouse (mN 2) (mN 3) (mN 4) (mN 5) (mN 6) m_undos m_images (mN 7) (mN 8) (mN 9) (mN 10) (mN 11) (mN 12) (mN 13) (mN 14) (mN 15) (mN 16) (mN 17) (mN 18) (mI 11) (mI 12) (mI 13) (mN 19) (mN 20) (mN 21) (mN 22) (mI 14) (mI 15)), ((mN 2), .inl (g.2.2.1, 311, .inl d_r)), ((mN 4), .inl (g.2.2.1, 44, .inl d_st))] (pkT [false, true, true, false, true, false] (MC g mo m_taped d_tape d_r d_st d_undone d_kept m_undos m_images m_hasHouse mI mN mFletters mFfresh mFfrom mFbegin mFmotor mFchange mFstartFrame mFchangeFrame mFlostAt mFblackAt mFslips mFleftArc mFdied mFarcs mFthere mFbackAt mFsorted mFparts) ++ (wX ++ wO)) (pm_M hpm (pk_pick [false, true, true, false, true, false] [(cO11_i1r1i10r1i2r5i2r12i3r4i2 mo (mI 0) (mN 0) m_taped (mI 1) (mI 2) (mI 3) (mI 4) (mI 5) (mI 6) (mI 7) (mI 8) (mI 9) (mN 1) (mI 10) m_hasHouse (mN 2) (mN 3) (mN 4) (mN 5) (mN 6) m_undos m_images (mN 7) (mN 8) (mN 9) (mN 10) (mN 11) (mN 12) (mN 13) (mN 14) (mN 15) (mN 16) (mN 17) (mN 18) (mI 11) (mI 12) (mI 13) (mN 19) (mN 20) (mN 21) (mN 22) (mI 14) (mI 15)), ((mN 2), .inl (g.2.2.1, 311, .inl d_r)), ((mN 4), .inl (g.2.2.1, 44, .inl d_st))] rfl (List.Perm.refl _))) (m_size l g mo a1 (mI 0) (mN 0) m_taped (mI 1) (mI 2) (mI 3) (mI 4) (mI 5) (mI 6) (mI 7) (mI 8) (mI 9) (mN 1) (mI 10) m_hasHouse (mN 2) (mN 3) (mN 4) (mN 5) (mN 6) m_undos m_images (mN 7) (mN 8) (mN 9) (mN 10) (mN 11) (mN 12) (mN 13) (mN 14) (mN 15) (mN 16) (mN 17) (mN 18) (mI 11) (mI 12) (mI 13) (mN 19) (mN 20) (mN 21) (mN 22) (mI 14) (mI 15) d_r d_st (iv_w h_m_hasHouse (zle_e rfl) (zle_e rfl)) (iv_w h_m_undos (zle_e rfl) (zle_e rfl)) (iv_w h_m_images (zle_e rfl) (zle_e rfl)) (iv_w h_m_taped (zle_e rfl) (zle_e rfl)) hRr) hd hm1 mw1571 mw1572 mw5 mw1573 rfl 11 rfl rfl 0 _ rfl yk_yX11_size_1 rfl hf hlo hst h1 h2 ?_
  rintro r w ⟨m_thrown2_n, rfl⟩
  refine k_perm _ pm_backM ?_
  exact kont r _ (MW_mk (uu mI 0 m_thrown2_n) mN mFletters mFfresh mFfrom mFbegin mFmotor mFchange mFstartFrame mFchangeFrame mFlostAt mFblackAt mFslips mFleftArc mFdied mFarcs mFthere mFbackAt mFsorted mFparts h_m_size h_m_end h_m_nameSize h_m_failed h_m_hasHouse h_m_undos h_m_images h_m_taped hRr hRf hTr (pk_back [false, true, true, false, true, false] [(cO11_i1r1i10r1i2r5i2r12i3r4i2 mo m_thrown2_n (mN 0) m_taped (mI 1) (mI 2) (mI 3) (mI 4) (mI 5) (mI 6) (mI 7) (mI 8) (mI 9) (mN 1) (mI 10) m_hasHouse (mN 2) (mN 3) (mN 4) (mN 5) (mN 6) m_undos m_images (mN 7) (mN 8) (mN 9) (mN 10) (mN 11) (mN 12) (mN 13) (mN 14) (mN 15) (mN 16) (mN 17) (mN 18) (mI 11) (mI 12) (mI 13) (mN 19) (mN 20) (mN 21) (mN 22) (mI 14) (mI 15)), ((mN 2), .inl (g.2.2.1, 311, .inl d_r)), ((mN 4), .inl (g.2.2.1, 44, .inl d_st))] rfl rfl (List.Perm.refl _)))

set_option maxHeartbeats 4000000 in
set_option maxRecDepth 100000 in
theorem lx_trouble {p : Program} {l : Launch} {e : Env} {R : Room} {s : State} {m : MethodId} {args : Array Value} {below : List Frame} {meth : Method} {c : Code} {Q : State → Prop} {A : Nat → Prop} {g : Gx} {cc : ByteArray} {nL n1 n2 pc : Nat} {own : String} {lv : List (Nat × Value)} {st : List Value} {xtpd : Int32} {tpf : Nat → Int32} {yhnf : Nat → Int32} {yhtn : Int32} {yhtf : Nat → Int32} {yhjn : Int32} {yhjf : Nat → Int32} {yhmn : Int32} {yhmf : Nat → Int32} {yhbn : Int32} {yhbf : Nat → Int32} {yhsn : Int32} {yhsf : Nat → Int32} {yhcn : Int32} {yhcf : Nat → Int32} {zrn : Int32} {zmn : Int32} {zwn : Int32} {zpn : Int32} {zmd : Int32} {ztr : Int32} {zrf : Nat → Int32} {zmf : Nat → Int32} {zwf : Nat → Int32} {zpf : Nat → Int32} {kac : Int32} {knx : Int32} {kim : Int32} {cf : Nat → SC} {h0 i : Nat} {wX wY : va_W} (_u : Unit) (X : Cx p s m meth c args cc nL own A g) (hx : XW g h0 xtpd tpf yhnf yhtn yhtf yhjn yhjf yhmn yhmf yhbn yhbf yhsn yhsf yhcn yhcf zrn zmn zwn zpn zmd ztr zrf zmf zwf zpf kac knx kim cf wX) (hd : decode cc pc = .ok (.invokevirtual i, 3)) (hm1 : Cond.methodLink own i yX10_trouble ∈ wsL_law0) (hf : 0 + 1 ≤ R.frames) (hlo : 8 + (1 + 11) + 0 ≤ R.locals) (hst : (st.map fun v => v.category).sum ≤ 8) (h1 : n1 ≤ R.cells) (h2 : n2 ≤ R.slots)
    (kont : ∀ (r : Int32)  (w2 : va_W), XW g h0 xtpd tpf yhnf yhtn yhtf yhjn yhjf yhmn yhmf yhbn yhbf yhsn yhsf yhcn yhcf zrn zmn zwn zpn zmd ztr zrf zmf zwf zpf kac knx kim cf w2 → Wk p l e R s m args below meth c Q A g nL n1 n2 (w2 ++ wY) lv (pc + 3) (.int r :: st)) : Wk p l e R s m args below meth c Q A g nL n1 n2 (wX ++ wY) lv pc ([] ++ .ref h0 :: st) := by
  refine XW_el hx (fun xN xI0 xI1 xJ1 xG2 xI3 xF3 xI4 xF4 xI5 xF5 xK xI10 xF10 xI11 xF11 xI12 xF12 xI13 xF13 xG13 xJ14 as pl h_xen h_xsta h_xpo h_xtpd h_kac h_knx h_kim hms hPL hkaf hkgf hlen hpm => ?_)
  refine k_callVIP (n := 0) (As := []) (st := st) X [(cO10_rrrrrrrrri h0 (xN 0) (xN 1) (xN 2) (xN 3) (xN 4) (xN 5) (xN 6) (xN 7) (xN 8) (xI0 0))] (pkT [false] (XC g h0 xtpd tpf yhnf yhtn yhtf yhjn yhjf yhmn yhmf yhbn yhbf yhsn yhsf yhcn yhcf zrn zmn zwn zpn zmd ztr zrf zmf zwf zpf kac knx kim xN xI0 xI1 xJ1 xG2 xI3 xF3 xI4 xF4 xI5 xF5 xK xI10 xF10 xI11 xF11 xI12 xF12 xI13 xF13 xG13 xJ14) ++ (pl ++ wY)) (pm_X hpm (pk_pick [false] [(cO10_rrrrrrrrri h0 (xN 0) (xN 1) (xN 2) (xN 3) (xN 4) (xN 5) (xN 6) (xN 7) (xN 8) (xI0 0))] rfl (List.Perm.refl _))) (c_trouble l g h0 (.ref (xN 0)) (.ref (xN 1)) (.ref (xN 2)) (.ref (xN 3)) (.ref (xN 4)) (.ref (xN 5)) (.ref (xN 6)) (.ref (xN 7)) (.ref (xN 8)) (xI0 0)) hd hm1 mw1575 mw1576 mw2 mw1577 rfl 10 rfl rfl 0 _ rfl yk_yX10_trouble_0 rfl hf hlo hst h1 h2 ?_
  rintro r w rfl
  refine k_perm _ pm_backX ?_
  exact kont r _ (XW_mk xN xI0 xI1 xJ1 xG2 xI3 xF3 xI4 xF4 xI5 xF5 xK xI10 xF10 xI11 xF11 xI12 xF12 xI13 xF13 xG13 xJ14 as pl h_xen h_xsta h_xpo h_xtpd h_kac h_knx h_kim hms hPL hkaf hkgf hlen (pk_backR [false] [(cO10_rrrrrrrrri h0 (xN 0) (xN 1) (xN 2) (xN 3) (xN 4) (xN 5) (xN 6) (xN 7) (xN 8) (xI0 0))] rfl rfl (List.Perm.refl _)))

set_option maxHeartbeats 4000000 in
set_option maxRecDepth 100000 in
theorem lm_trouble {p : Program} {l : Launch} {e : Env} {R : Room} {s : State} {m : MethodId} {args : Array Value} {below : List Frame} {meth : Method} {c : Code} {Q : State → Prop} {A : Nat → Prop} {g : Gx} {cc : ByteArray} {nL n1 n2 pc : Nat} {own : String} {lv : List (Nat × Value)} {st : List Value} {m_taped : Int32} {d_tape : Nat → Int32} {d_r : Nat → Int32} {d_st : Nat → Int32} {d_undone : Nat → Int32} {d_kept : Nat → Int32} {m_undos : Int32} {m_images : Int32} {m_hasHouse : Int32} {mo i : Nat} {wX wM wO : va_W} (_u : Unit) (X : Cx p s m meth c args cc nL own A g) (hx : MW g mo m_taped d_tape d_r d_st d_undone d_kept m_undos m_images m_hasHouse wM) (hd : decode cc pc = .ok (.invokevirtual i, 3)) (hm1 : Cond.methodLink own i yX11_trouble ∈ wsL_law0) (hf : 0 + 1 ≤ R.frames) (hlo : 8 + (1 + 11) + 0 ≤ R.locals) (hst : (st.map fun v => v.category).sum ≤ 8) (h1 : n1 ≤ R.cells) (h2 : n2 ≤ R.slots)
    (kont : ∀ (r : Int32)  (w2 : va_W), MW g mo m_taped d_tape d_r d_st d_undone d_kept m_undos m_images m_hasHouse w2 → Wk p l e R s m args below meth c Q A g nL n1 n2 (wX ++ (w2 ++ wO)) lv (pc + 3) (.int r :: st)) : Wk p l e R s m args below meth c Q A g nL n1 n2 (wX ++ (wM ++ wO)) lv pc ([] ++ .ref mo :: st) := by
  refine MW_el hx (fun mI mN mFletters mFfresh mFfrom mFbegin mFmotor mFchange mFstartFrame mFchangeFrame mFlostAt mFblackAt mFslips mFleftArc mFdied mFarcs mFthere mFbackAt mFsorted mFparts h_m_size h_m_end h_m_nameSize h_m_failed h_m_hasHouse h_m_undos h_m_images h_m_taped hRr hRf hTr hpm => ?_)
  refine k_callVIP (n := 0) (As := []) (st := st) X [(cO11_i1r1i10r1i2r5i2r12i3r4i2 mo (mI 0) (mN 0) m_taped (mI 1) (mI 2) (mI 3) (mI 4) (mI 5) (mI 6) (mI 7) (mI 8) (mI 9) (mN 1) (mI 10) m_hasHouse (mN 2) (mN 3) (mN 4) (mN 5) (mN 6) m_undos m_images (mN 7) (mN 8) (mN 9) (mN 10) (mN 11) (mN 12) (mN 13) (mN 14) (mN 15) (mN 16) (mN 17) (mN 18) (mI 11) (mI 12) (mI 13) (mN 19) (mN 20) (mN 21) (mN 22) (mI 14) (mI 15))] (pkT [false] (MC g mo m_taped d_tape d_r d_st d_undone d_kept m_undos m_images m_hasHouse mI mN mFletters mFfresh mFfrom mFbegin mFmotor mFchange mFstartFrame mFchangeFrame mFlostAt mFblackAt mFslips mFleftArc mFdied mFarcs mFthere mFbackAt mFsorted mFparts) ++ (wX ++ wO)) (pm_M hpm (pk_pick [false] [(cO11_i1r1i10r1i2r5i2r12i3r4i2 mo (mI 0) (mN 0) m_taped (mI 1) (mI 2) (mI 3) (mI 4) (mI 5) (mI 6) (mI 7) (mI 8) (mI 9) (mN 1) (mI 10) m_hasHouse (mN 2) (mN 3) (mN 4) (mN 5) (mN 6) m_undos m_images (mN 7) (mN 8) (mN 9) (mN 10) (mN 11) (mN 12) (mN 13) (mN 14) (mN 15) (mN 16) (mN 17) (mN 18) (mI 11) (mI 12) (mI 13) (mN 19) (mN 20) (mN 21) (mN 22) (mI 14) (mI 15))] rfl (List.Perm.refl _))) (m_trouble l g mo (mI 0) (mN 0) m_taped (mI 1) (mI 2) (mI 3) (mI 4) (mI 5) (mI 6) (mI 7) (mI 8) (mI 9) (mN 1) (mI 10) m_hasHouse (mN 2) (mN 3) (mN 4) (mN 5) (mN 6) m_undos m_images (mN 7) (mN 8) (mN 9) (mN 10) (mN 11) (mN 12) (mN 13) (mN 14) (mN 15) (mN 16) (mN 17) (mN 18) (mI 11) (mI 12) (mI 13) (mN 19) (mN 20) (mN 21) (mN 22) (mI 14) (mI 15)) hd hm1 mw1579 mw1580 mw5 mw1581 rfl 11 rfl rfl 0 _ rfl yk_yX11_trouble_0 rfl hf hlo hst h1 h2 ?_
  rintro r w ⟨m_thrown2_n, rfl⟩
  refine k_perm _ pm_backM ?_
  exact kont r _ (MW_mk (uu mI 0 m_thrown2_n) mN mFletters mFfresh mFfrom mFbegin mFmotor mFchange mFstartFrame mFchangeFrame mFlostAt mFblackAt mFslips mFleftArc mFdied mFarcs mFthere mFbackAt mFsorted mFparts h_m_size h_m_end h_m_nameSize h_m_failed h_m_hasHouse h_m_undos h_m_images h_m_taped hRr hRf hTr (pk_back [false] [(cO11_i1r1i10r1i2r5i2r12i3r4i2 mo m_thrown2_n (mN 0) m_taped (mI 1) (mI 2) (mI 3) (mI 4) (mI 5) (mI 6) (mI 7) (mI 8) (mI 9) (mN 1) (mI 10) m_hasHouse (mN 2) (mN 3) (mN 4) (mN 5) (mN 6) m_undos m_images (mN 7) (mN 8) (mN 9) (mN 10) (mN 11) (mN 12) (mN 13) (mN 14) (mN 15) (mN 16) (mN 17) (mN 18) (mI 11) (mI 12) (mI 13) (mN 19) (mN 20) (mN 21) (mN 22) (mI 14) (mI 15))] rfl rfl (List.Perm.refl _)))

/-! THE CLAIM OUT OF ONE WALK OF THE LAW'S BODY. Your part is whole_start (and what it stands on); all else here is the same for every law, but numbers. -/
def R_law : String := "ReelChangeLaw"
def lw_P (b : Addr) (xs : List Int32) (args : Array Value) (s : State) : Prop := args = #[.ref b] ∧ s.IntsAt b xs ∧ xs.length ≤ 3072 ∧ (Jvm.Cond.and given_1 narrow_1).before args s = true
def lw_Q (_ : Array Value) (s : State) (o : Outcome) (t : State) : Prop := o = .returned (some (.int 1)) ∧ Framed s o t [] 601024 7293034
def lw_Z (below : List Frame) (a : Array Value) (s : State) : State → Prop := fun t => ∃ o, t.status = .running ∧ Ended t below o ∧ lw_Q a s o t
/-- the law's own end, with 1 on the stack, nothing written that was there before, its room as the claim has it -/
theorem lw_ret {p : Program} {l : Launch} {e : Env} {s : State} {m : MethodId} {below : List Frame} {meth : Method} {c : Code} {b : Nat} (hx : p.tables.exec = Jvm.exec) (hb : c.code = code) (hr : meth.sig.returnType = ret) (hlocks : meth.locks = false) {pc : Nat} {H : Heap} {ls : Array Slot} (hdg : decode code pc = .ok (.ireturn, 1)) : W p l e room_1 s m #[Value.ref b] below meth c H [] 601024 7293034 (lw_Z below #[Value.ref b] s) (F0 m pc ls [.int 1]) := by
  intro T hT X
  obtain ⟨fs, hret, hrun, hended, hW, hframe⟩ := X.leave (v := some (.int 1)) (hlocks := hlocks) (fun h => by rw [hr] at h; cases h)
  have hmeth' : T.vm.method? m = some meth := X.method'
  refine ⟨T.setFrames fs, ?_, .returned (some (.int 1)), hrun, hended, rfl, ⟨_, rfl⟩, hW, hframe⟩
  jvm_step X.here [X.here.top, hx, hb, hdg, hmeth', hr, ret, narrow_b1]
  (try refine ⟨rfl, ?_⟩); (try refine ⟨rfl, ?_⟩)
  first | (intro acts; rw [hret _ acts rfl rfl rfl]) | rw [hret _ _ rfl rfl rfl]
  exact Steps.refl _
/-- what holds at the law's entry: the machine, the code, the tables' words (any of lw_tbl by 'hts w (by decide +kernel)'), the script of L ints xs at the cell b, what the Statement gives of the start (any of its parts by flat_of_before) -/
def lw_At (p : Program) (s : State) (m : MethodId) (meth : Method) (c : Code) (b L : Nat) (xs : Nat → Int32) : Prop :=
  p.tables.exec = Jvm.exec ∧ c.code = code ∧ meth.sig.returnType = ret ∧ c.maxLocals = 7 ∧ s.vm.findClass R_law = some m.cls ∧ (∀ w ∈ lw_tbl, w.before #[Value.ref b] s = true) ∧ va_X b L xs s s.heap ∧ b < s.heap.size ∧ meth.locks = false ∧ (Jvm.Cond.and given_1 narrow_1).before #[Value.ref b] s = true

section VXA
def vx_T (XC : String → State → State → Prop) (st : State) (q : Addr) (t : State) (mc ms : Nat) (free : Addr → Prop) : Prop :=
  ∃ (E : String) (ce : Cell) (L : List Loc), XC E st t ∧ t.heap[q]? = some ce ∧ ce.vm = .none ∧ st.vm.findClass E = some ce.cls ∧ st.WarmedH t.vm ∧ st.sameButNew ({ t with vm := st.vm } : State) L mc ms ∧ ∀ z ∈ L, free z.base
def vx_Q (Qc : Array Value → State → Outcome → State → Prop) (XC : String → State → State → Prop) (mc ms : Nat) (free : Addr → Prop) : Array Value → State → Outcome → State → Prop := fun a st o t =>
  (Qc a st o t ∧ ∃ L, FrameEnd st o t L mc ms ∧ ∀ q ∈ L, free q.base) ∨ ∃ q, o = .threw q ∧ vx_T XC st q t mc ms free
def vx_Met (l : Launch) (y : MethodName) (ws : List Cond) (rm : Room) (Pc : Array Value → State → Prop) (Qc : Array Value → State → Outcome → State → Prop) (XC : String → State → State → Prop) (mc ms : Nat) (free : Addr → Prop) : Prop :=
  MetFree l y (headSpec ws rm) Pc (fun _ _ _ _ _ => True) (vx_Q Qc XC mc ms free)
def vx_Post (XC : String → State → State → Prop) (mc ms : Nat) (free : Addr → Prop) : Pt → Array Value → Addr → Pt → Prop := fun A a q B =>
  ∃ (g : JFrame) (mk : MethodId) (t : State) (L : List Loc) (E : String) (ce : Cell), B.U.heap = t.heap ∧ B.U.vm = t.vm ∧ XC E (A.U.calling g mk a) t ∧ t.heap[q]? = some ce ∧ ce.vm = .none ∧ A.U.vm.findClass E = some ce.cls ∧ B.locs = A.locs ++ L ∧ (∀ z ∈ L, free z.base) ∧ B.cells = A.cells + mc ∧ B.slots = A.slots + ms
def vx_Back (l : Launch) (R : Room) (p : Program) (e : Env) (below : List Frame) (s : State) (sargs : Array Value) (y : MethodName) (len W9 : Nat)
    (Pre : Pt → Array Value → Prop) (Post : Pt → Array Value → Option Value → Pt → Prop) (PostX : Pt → Array Value → Addr → Pt → Prop) : Prop :=
  ∀ (m : MethodId) (meth : Method) (c : Code) (A : Pt) (g : JFrame) (ig : Instr) (mk : MethodId) (a : Array Value),
    Stand p l e R s m sargs below meth c A.U A.locs A.cells A.slots → g.method = m → g.locals.size = c.maxLocals → decode c.code g.pc = .ok (ig, len) →
    2 * g.monitorRoom + (g.stack.map fun v => v.category).sum ≤ W9 → A.U.methodNamed? y = some mk → Pre A a →
    (∃ (v : Option Value) (B : Pt), Stand p l e R s m sargs below meth c B.U B.locs B.cells B.slots ∧ Post A a v B ∧
      Steps p.tables e below (doInvoke e (A.U.setTop g) [] mk a).1 (B.U.setTop { g with pc := g.pc + len, stack := v.toList ++ g.stack })) ∨
    (∃ (q : Addr) (B : Pt), Stand p l e R s m sargs below meth c B.U B.locs B.cells B.slots ∧ PostX A a q B ∧
      Steps p.tables e below (doInvoke e (A.U.setTop g) [] mk a).1 ((B.U.setTop g).pushFrame (.throwing q)))
section Payer
variable {l : Launch} {R : Room} {p : Program} {e : Env} {below : List Frame} {s : State} {sargs : Array Value} {y : MethodName} {len W9 : Nat}
theorem vx_back {ws : List Cond} {rm : Room} {Pc : Array Value → State → Prop} {Qc : Array Value → State → Outcome → State → Prop} {XC : String → State → State → Prop} {mc ms : Nat} {free : Addr → Prop} {bytes : ByteArray} {maxL : Nat} {ret : Option FieldType}
    (hM : vx_Met l y ws rm Pc Qc XC mc ms free) (hblind : FrameBlind Pc) (hrc : rm.cells = mc) (hrs : rm.slots = ms)
    (hframes : rm.frames + 1 ≤ R.frames) (hlocals : W9 + (maxL + 11) + rm.locals ≤ R.locals)
    (hws : ∀ w ∈ ws, ∀ a' U, s.WarmedH U.vm → w.before a' U = true) (hcode : Cond.code y bytes maxL ret ∈ ws) (hinit : ∀ a' U, s.WarmedH U.vm → (Cond.initialized y.cls).before a' U = true) :
    vx_Back l R p e below s sargs y len W9 (PreOf R mc ms Pc) (PostOf Qc mc ms free) (vx_Post XC mc ms free) := by
  intro m meth c A g ig mk a X hg hsize hdg hW hn hp
  have h1 : (headSpec ws rm).pre.before a A.U = true := atoms_intro fun w hw => hws w hw _ _ X.warmed
  have h2 : (Cond.code y bytes maxL ret).before a A.U = true := hws _ hcode _ _ X.warmed
  have h3 : (Cond.initialized y.cls).before a A.U = true := hinit _ _ X.warmed
  have h4 : A.cells + (headSpec ws rm).room.cells ≤ R.cells := by rw [show (headSpec ws rm).room.cells = mc from hrc]; exact hp.1
  have h5 : A.slots + (headSpec ws rm).room.slots ≤ R.slots := by rw [show (headSpec ws rm).room.slots = ms from hrs]; exact hp.2.1
  have hPc : Pc a (A.U.calling g mk a) := hblind _ _ _ _ hp.2.2
  obtain ⟨U, Ls, c0, s0⟩ := A
  dsimp only [Pt.U, Pt.locs, Pt.cells, Pt.slots] at h1 h2 h3 h4 h5 X hn hPc ⊢
  obtain ⟨methY, cY, hmY, hcY, -, hlY, -, -, -, -⟩ := Cond.code_spec hn h2
  obtain ⟨kY, hkY, -⟩ := className_of_methodNamed hn
  have hinitY : kY.init = .initialized := Cond.initialized_spec (findClass_of_methodNamed hn) hkY h3
  have h : At U g.method c below := by rw [hg]; exact X.here
  have hlocals9 : W9 + (maxL + 11) + (headSpec ws rm).room.locals ≤ R.locals := hlocals
  have happ : (headSpec ws rm).appliesLoose y e.platform (U.calling g mk a) = true :=
    Spec.appliesLoose_calling (g := g) h hdg hn hkY hinitY
      (X.room_calling (g := g) (R' := (headSpec ws rm).room) hsize hmY hcY hframes (by rw [hlY]; omega) h4 h5) h1
  obtain ⟨mid, hmid⟩ := h.above
  have hfr : (U.setTop g).frames = (.java g :: mid) ++ below := by rw [State.frames_setTop' g h.top, hmid]; rfl
  obtain ⟨o, s₂, hsteps, -, hend, hq⟩ := Steps.callFree hM p X.admits X.cas X.clock (acts := []) hfr happ hPc trivial
  have hq' : vx_Q Qc XC mc ms free a (U.calling g mk a) o s₂ := hq
  rw [State.frames_setTop' g h.top] at hend
  obtain ⟨g₀, hg0⟩ := Option.isSome_iff_exists.mp h.top
  obtain ⟨r, hr⟩ := State.topJava?_eq_some.mp hg0
  have hr' : (({ U with heap := s₂.heap, slotsUsed := s₂.slotsUsed } : State).setVm s₂.vm).frames = .java g₀ :: r := hr
  rcases hq' with ⟨hqc, L, hfe, hL⟩ | ⟨q, rfl, E, ce, L, hx, hce, hcv, hcl, hW₂, hsm, hL⟩
  · obtain ⟨⟨v, rfl⟩, hW₂, e2, q2, q3, q4, q5, q6⟩ := id hfe
    have e3 : s₂ = ({ (U.calling g mk a).setFrames s₂.frames with heap := s₂.heap, slotsUsed := s₂.slotsUsed } : State).setVm s₂.vm := by
      have : s₂ = ({ s₂ with vm := (U.calling g mk a).vm } : State).setVm s₂.vm := rfl
      rw [e2] at this
      exact this
    obtain ⟨c₂, i₂, len₂, hc₂, hd₂, hf₂⟩ := hend
    have hW' : U.WarmedH s₂.vm := hW₂
    have hcc : c₂ = c := by
      have h1 : s₂.code? g.method = U.code? g.method := by
        rw [State.code?_eq, State.code?_eq, hW'.alike.method?]
      exact Option.some.inj (hc₂.symm.trans (h1.trans h.code))
    subst hcc
    have hlen : len₂ = len := by rw [hdg] at hd₂; cases hd₂; rfl
    subst hlen
    have hs₂ : s₂ = (({ U with heap := s₂.heap, slotsUsed := s₂.slotsUsed } : State).setVm s₂.vm).setTop { g with pc := g.pc + len₂, stack := v.toList ++ g.stack } := by
      refine e3.trans ?_
      rw [hf₂, State.calling_eq h.top, State.setFrames_setFrames, State.setTop_of_frames _ hr', hr]
      rfl
    have hsame : U.sameButNew ({ U with heap := s₂.heap, slotsUsed := s₂.slotsUsed } : State) L mc ms := by
      refine ⟨?_, q2, q3, q4, q5, q6⟩
      obtain ⟨t, ht, -⟩ := State.frames_cons hr
      show ({ U with heap := s₂.heap, slotsUsed := s₂.slotsUsed } : State) = { U.setFrames U.frames with heap := s₂.heap, slotsUsed := s₂.slotsUsed }
      rw [State.setFrames_self ht]
    subst hg
    refine Or.inl ⟨v, ⟨(({ U with heap := s₂.heap, slotsUsed := s₂.slotsUsed } : State).setVm s₂.vm), Ls ++ L, c0 + mc, s0 + ms⟩,
      ⟨X.admits, X.cas, X.clock, X.frames, X.room, X.hears, X.method, X.code, (X.here.setHeapUsed s₂.heap s₂.slotsUsed).setVm hW'.alike, X.tail, State.WarmedH.trans X.warmed hW', X.limits, X.bytes, X.same.trans (hsame.setVm s.vm)⟩,
      ⟨g, mk, s₂, L, rfl, rfl, hqc, rfl, hL, rfl, rfl⟩, ?_⟩
    show Steps p.tables e below _ ((({ U with heap := s₂.heap, slotsUsed := s₂.slotsUsed } : State).setVm s₂.vm).setTop { g with pc := g.pc + len₂, stack := v.toList ++ g.stack })
    rw [← hs₂]
    exact hsteps
  · obtain ⟨e2, q2, q3, q4, q5, q6⟩ := id hsm
    have e3 : s₂ = ({ (U.calling g mk a).setFrames s₂.frames with heap := s₂.heap, slotsUsed := s₂.slotsUsed } : State).setVm s₂.vm := by
      have : s₂ = ({ s₂ with vm := (U.calling g mk a).vm } : State).setVm s₂.vm := rfl
      rw [e2] at this
      exact this
    have hf₂ : s₂.frames = .throwing q :: .java g :: U.frames.tail := hend
    have hW' : U.WarmedH s₂.vm := hW₂
    have hs₂ : s₂ = ((({ U with heap := s₂.heap, slotsUsed := s₂.slotsUsed } : State).setVm s₂.vm).setTop g).pushFrame (.throwing q) := by
      refine e3.trans ?_
      rw [hf₂, State.calling_eq h.top, State.setFrames_setFrames, State.pushFrame, State.frames_setTop _ hr', State.setTop_of_frames _ hr', State.setFrames_setFrames, hr]
      rfl
    have hsame : U.sameButNew ({ U with heap := s₂.heap, slotsUsed := s₂.slotsUsed } : State) L mc ms := by
      refine ⟨?_, q2, q3, q4, q5, q6⟩
      obtain ⟨t, ht, -⟩ := State.frames_cons hr
      show ({ U with heap := s₂.heap, slotsUsed := s₂.slotsUsed } : State) = { U.setFrames U.frames with heap := s₂.heap, slotsUsed := s₂.slotsUsed }
      rw [State.setFrames_self ht]
    subst hg
    refine Or.inr ⟨q, ⟨(({ U with heap := s₂.heap, slotsUsed := s₂.slotsUsed } : State).setVm s₂.vm), Ls ++ L, c0 + mc, s0 + ms⟩,
      ⟨X.admits, X.cas, X.clock, X.frames, X.room, X.hears, X.method, X.code, (X.here.setHeapUsed s₂.heap s₂.slotsUsed).setVm hW'.alike, X.tail, State.WarmedH.trans X.warmed hW', X.limits, X.bytes, X.same.trans (hsame.setVm s.vm)⟩,
      ⟨g, mk, s₂, L, E, ce, rfl, rfl, hx, hce, hcv, hcl, rfl, hL, rfl, rfl⟩, ?_⟩
    show Steps p.tables e below _ (((({ U with heap := s₂.heap, slotsUsed := s₂.slotsUsed } : State).setVm s₂.vm).setTop g).pushFrame (.throwing q))
    rw [← hs₂]
    exact hsteps
end Payer
section Calls
variable {p : Program} {l : Launch} {e : Env} {R : Room} {s : State} {m : MethodId} {args : Array Value} {below : List Frame} {meth : Method} {c : Code} {T : State} {locs : List Loc} {cells slots : Nat}
theorem vx_callV (X : Stand p l e R s m args below meth c T locs cells slots) (hexec : p.tables.exec = Jvm.exec) {own C : String} {index : Nat} {y : MethodName} {bytes : ByteArray} {maxL : Nat} {ret : Option FieldType}
    (hown : s.vm.findClass own = some m.cls) (hlink : (Cond.methodLink own index y).before args s = true) (hinst : (Cond.instanceMethod y).before args s = true) (hsel : (Cond.selects C y y).before args s = true)
    (hcode : (Cond.code y bytes maxL ret).before args s = true) (hy : y.cls ≠ "java/lang/invoke/MethodHandle" ∧ y.cls ≠ "java/lang/invoke/VarHandle")
    {W9 : Nat} {Pre : Pt → Array Value → Prop} {Post : Pt → Array Value → Option Value → Pt → Prop} {PostX : Pt → Array Value → Addr → Pt → Prop} (hK : vx_Back l R p e below s args y 3 W9 Pre Post PostX)
    {b : Addr} {cellB : Cell} (hcell : T.heap[b]? = some cellB) (hobj : cellB.vm.isStatics = false) (hcls : s.vm.findClass C = some cellB.cls)
    {g : JFrame} (hg : g.method = m) (hsize : g.locals.size = c.maxLocals) {argsL rest : List Value} (hlen : ∀ sig, parseMethodDescriptor y.desc = some sig → argsL.length = sig.parameters.length)
    (hstack : g.stack = argsL.reverse ++ .ref b :: rest) (hW : 2 * g.monitorRoom + (rest.map fun v => v.category).sum ≤ W9) (hdg : decode c.code g.pc = .ok (.invokevirtual index, 3))
    (hpre : ∀ vm₁, s.WarmedH vm₁ → Pre ⟨T.setVm vm₁, locs, cells, slots⟩ (Value.ref b :: argsL).toArray) :
    (∃ (v : Option Value) (vm₁ : Vm) (B : Pt), s.WarmedH vm₁ ∧ Stand p l e R s m args below meth c B.U B.locs B.cells B.slots ∧ Post ⟨T.setVm vm₁, locs, cells, slots⟩ (Value.ref b :: argsL).toArray v B ∧
      ∀ target, Steps p.tables e below (B.U.setTop { g with pc := g.pc + 3, stack := v.toList ++ rest }) target → Steps p.tables e below (T.setTop g) target) ∨
    (∃ (q : Addr) (vm₁ : Vm) (B : Pt), s.WarmedH vm₁ ∧ Stand p l e R s m args below meth c B.U B.locs B.cells B.slots ∧ PostX ⟨T.setVm vm₁, locs, cells, slots⟩ (Value.ref b :: argsL).toArray q B ∧
      Steps p.tables e below (T.setTop g) ((B.U.setTop { g with stack := rest }).pushFrame (.throwing q))) := by
  obtain ⟨mk, methM, hnamed, hmethM, hstM, habM⟩ := Cond.instanceMethod_spec hinst
  obtain ⟨methM', cM, hmethM', -, -, -, -, -, -, hsigM⟩ := Cond.code_spec hnamed hcode
  cases hmethM.symm.trans hmethM'
  obtain ⟨c2, r2, m2, q1, q2, q3, q4, kP, hkP, hkPi⟩ := Cond.selects_spec hsel
  cases hcls.symm.trans q1
  cases (State.methodFound?_of_named hnamed hy).symm.trans q2
  cases hnamed.symm.trans q3
  have hselP : selectMethod e.platform s.vm cellB.cls mk = .method mk := by rw [Launch.admits_selectMethod X.admits]; exact q4
  obtain ⟨vm₁, X₁, hstep₁⟩ := X.invokevirtual hexec hown hlink hnamed hmethM hstM hkP hkPi hy (a := b) (cell := cellB) hcell
    (fun z h => by rw [h] at hobj; cases hobj) hselP hmethM habM hkP hkPi (g := g) hg (argsL := argsL) (rest := rest) (hlen _ hsigM) hstack hdg
  rcases hK m meth c ⟨T.setVm vm₁, locs, cells, slots⟩ { g with stack := rest } (.invokevirtual index) mk (Value.ref b :: argsL).toArray X₁ hg hsize hdg hW (X₁.named hnamed) (hpre vm₁ X₁.warmed) with ⟨v, B, X', hpost, hsteps⟩ | ⟨q, B, X', hpost, hsteps⟩
  · exact Or.inl ⟨v, vm₁, B, X₁.warmed, X', hpost, fun target h => hstep₁ _ fun acts => by rw [doInvoke_state]; exact hsteps.trans h⟩
  · exact Or.inr ⟨q, vm₁, B, X₁.warmed, X', hpost, hstep₁ _ fun acts => by rw [doInvoke_state]; exact hsteps⟩
end Calls
theorem vx_cls {s : State} {T : State} {vm₁ : Vm} {E : String} {k : ClassId} (hW : s.WarmedH vm₁) (h : (T.setVm vm₁).vm.findClass E = some k) : s.vm.findClass E = some k := by
  have h1 : vm₁.findClass E = some k := h
  rw [hW.alike.findClass] at h1
  exact h1
def vx_W (p : Program) (l : Launch) (e : Env) (R : Room) (s : State) (m : MethodId) (args : Array Value) (below : List Frame) (meth : Method) (c : Code) (H : Heap) (locs : List Loc) (cells slots : Nat) (Q : State → Prop) (g : JFrame) (q : Addr) : Prop :=
  ∀ T : State, T.heap = H → Stand p l e R s m args below meth c T locs cells slots → ∃ t, Steps p.tables e below ((T.setTop g).pushFrame (.throwing q)) t ∧ Q t
def vx_Run (p : Program) (l : Launch) (e : Env) (R : Room) (s : State) (m : MethodId) (args : Array Value) (below : List Frame) (meth : Method) (c : Code) (H : Heap) (locs : List Loc) (cells slots mc ms : Nat) (g : JFrame) (rest : List Value) (Qa : State → Outcome → State → Prop) (XC : String → State → State → Prop) (free : Addr → Prop) : Prop :=
  ∀ T : State, T.heap = H → Stand p l e R s m args below meth c T locs cells slots →
    (∃ (v : Option Value) (st₀ t T' : State) (L : List Loc), st₀.heap = H ∧ Stand p l e R s m args below meth c T' (locs ++ L) (cells + mc) (slots + ms) ∧ (∀ q ∈ L, free q.base) ∧ T'.heap = t.heap ∧ T'.vm = t.vm ∧ Qa st₀ (.returned v) t ∧
      Goes p e below T g T' { g with pc := g.pc + 3, stack := v.toList ++ rest }) ∨
    (∃ (q : Addr) (st₀ t T' : State) (L : List Loc) (E : String) (ce : Cell), st₀.heap = H ∧ Stand p l e R s m args below meth c T' (locs ++ L) (cells + mc) (slots + ms) ∧ (∀ z ∈ L, free z.base) ∧ T'.heap = t.heap ∧ T'.vm = t.vm ∧ XC E st₀ t ∧ t.heap[q]? = some ce ∧ ce.vm = .none ∧ s.vm.findClass E = some ce.cls ∧
      Steps p.tables e below (T.setTop g) ((T'.setTop { g with stack := rest }).pushFrame (.throwing q)))
def vx_X {S : Type} (px : S → Prop) (B : String → S → State → Prop) (A : Nat → Prop) : String → State → State → Prop := fun E st t => ∃ u : S, px u ∧ B E u t ∧ va_F A st t
section Runs
variable {p : Program} {l : Launch} {e : Env} {R : Room} {s : State} {m : MethodId} {args : Array Value} {below : List Frame} {meth : Method} {c : Code} {H : Heap} {locs : List Loc} {cells slots : Nat}
variable {y : MethodName} {bytes cc : ByteArray} {maxL nL mc ms n index : Nat} {ret : Option FieldType} {ws : List Cond} {rm : Room} {Pc : Array Value → State → Prop} {Qc : Array Value → State → Outcome → State → Prop} {XC : String → State → State → Prop} {free : Addr → Prop} {Ts : List Cond} {own C : String} {b : Addr} {As rest : List Value} {g : JFrame}
theorem vx_callBack (cb : CallB R s args own index y bytes maxL ret ws rm mc ms n) (hM : vx_Met l y ws rm Pc Qc XC mc ms free) (hbl : FrameBlind Pc) : vx_Back l R p e below s args y 3 8 (PreOf R mc ms Pc) (PostOf Qc mc ms free) (vx_Post XC mc ms free) := by
  obtain ⟨hrc, hrs, hfr, hlo, hws, hcw, -, hini, -⟩ := cb
  exact vx_back (bytes := bytes) (maxL := maxL) (ret := ret) hM hbl hrc hrs hfr hlo hws hcw (fun a' U hW => word_at hW (Or.inl (by first | rfl | simp [Cond.onTables, Cond.keeps, Cond.steady])) hini)
theorem vx_runV (S : CallFix p m c cc nL s args Ts own) (hM : vx_Met l y ws rm Pc Qc XC mc ms free) (cw : CallW R s args own C index y bytes maxL ret ws rm mc ms n) (hp : PreV s H C b Pc As)
    (hg : g.method = m) (hn : As.length = n) (hsize : g.locals.size = nL) (hstack : g.stack = As.reverse ++ .ref b :: rest) (hW : 2 * g.monitorRoom + (rest.map fun v => v.category).sum ≤ 8) (hdg : decode cc g.pc = .ok (.invokevirtual index, 3)) (hf : cells + mc ≤ R.cells ∧ slots + ms ≤ R.slots) :
    vx_Run p l e R s m args below meth c H locs cells slots mc ms g rest (Qc (Value.ref b :: As).toArray) XC free := by
  have hK : vx_Back l R p e below s args y 3 8 (PreOf R mc ms Pc) (PostOf Qc mc ms free) (vx_Post XC mc ms free) := vx_callBack cw.1 hM hp.1
  obtain ⟨⟨-, -, -, -, -, -, hcode, -, hy, hlen, hl⟩, hin, hse⟩ := cw
  obtain ⟨hx, hb, hml, ho, -⟩ := S
  obtain ⟨-, ⟨cellB, hcB, hoB, hclB⟩, hPc⟩ := hp
  intro T hT X
  rcases vx_callV X hx (C := C) (bytes := bytes) (maxL := maxL) (ret := ret) ho hl hin hse hcode hy hK (by rw [hT]; exact hcB) hoB hclB hg (hsize.trans hml.symm) (argsL := As) (rest := rest) (fun sig h => hn.trans (hlen sig h)) hstack hW (by rw [hb]; exact hdg)
    (fun vm₁ hW₁ => ⟨hf.1, hf.2, hPc (T.setVm vm₁) hT hW₁⟩) with ⟨v, vm₁, ⟨U', l2, c2, s2⟩, hW₁, X', ⟨g', mk, t, L, e1, e2, hq, h1, hL, h2, h3⟩, st⟩ | ⟨q, vm₁, ⟨U', l2, c2, s2⟩, hW₁, X', ⟨g', mk, t, L, E, ce, e1, e2, hq, hce, hcv, hcl, h1, hL, h2, h3⟩, st⟩
  · dsimp only [Pt.U, Pt.locs, Pt.cells, Pt.slots] at X' e1 e2 h1 h2 h3 st
    subst h1; subst h2; subst h3
    exact Or.inl ⟨v, (T.setVm vm₁).calling g' mk (Value.ref b :: As).toArray, t, U', L, hT, X', hL, e1, e2, hq, st⟩
  · dsimp only [Pt.U, Pt.locs, Pt.cells, Pt.slots] at X' e1 e2 h1 h2 h3 st hcl
    subst h1; subst h2; subst h3
    exact Or.inr ⟨q, (T.setVm vm₁).calling g' mk (Value.ref b :: As).toArray, t, U', L, E, ce, hT, X', hL, e1, e2, hq, hce, hcv, vx_cls hW₁ hcl, st⟩
end Runs
section Rows
variable {p : Program} {l : Launch} {e : Env} {R : Room} {s : State} {m : MethodId} {args : Array Value} {below : List Frame} {meth : Method} {c : Code} {H : Heap} {locs : List Loc} {cells slots : Nat} {Q : State → Prop}
variable {mc ms : Nat} {free : Addr → Prop} {A0 A1 : Nat → Prop} {H0 : Heap} {a : Array Value} {pc : Nat} {ls : Array Slot} {st0 rest : List Value}
theorem vx_keep {st₀ t T' : State} {L : List Loc} (h0 : st₀.heap = H) (e1 : T'.heap = t.heap) (hS : va_S A0 H0 H locs) (hA : ∀ q, q < H.size → A1 q → A0 q) (hf : ∀ q, free q → A0 q) (hL : ∀ q ∈ L, free q.base) (hF : va_F A1 st₀ t) :
    H.size ≤ T'.heap.size ∧ (∀ q : Nat, q < H.size → ¬ A1 q → T'.heap[q]? = H[q]?) ∧ va_S A0 H0 T'.heap (locs ++ L) := by
  obtain ⟨hz, hk⟩ := hF
  rw [h0] at hz hk
  exact ⟨by rw [e1]; exact hz, fun q h1 h2 => by rw [e1]; exact hk q h1 h2,
    ⟨Nat.le_trans hS.1 (by rw [e1]; exact hz), fun q h1 h2 => by rw [e1, hk q (Nat.lt_of_lt_of_le h1 hS.1) (fun z => h2 (hA q (Nat.lt_of_lt_of_le h1 hS.1) z))]; exact hS.2.1 q h1 h2, fun q hq => by
      rcases List.mem_append.mp hq with h | h
      · exact hS.2.2 q h
      · exact hf _ (hL q h)⟩⟩
theorem vx_calli {S SX : Type} {post : Int32 → S → Prop} {px : SX → Prop} {B : S → State → Prop} {BX : String → SX → State → Prop} {AX : Nat → Prop} (hr : vx_Run p l e R s m args below meth c H locs cells slots mc ms (F0 m pc ls st0) rest (va_Qi post B A1 a) (vx_X px BX AX) free) (hS : va_S A0 H0 H locs) (hA : ∀ q, q < H.size → A1 q → A0 q) (hf : ∀ q, free q → A0 q) (hAX : ∀ q, q < H.size → AX q → A0 q)
    (kx : ∀ (E : String) (ce : Cell) (q9 : Addr) (u : SX) (t : State) (H1 : Heap) (locs1 : List Loc), t.heap = H1 → s.vm.Alike t.vm → px u → BX E u t → H.size ≤ H1.size → (∀ q : Nat, q < H.size → ¬ AX q → H1[q]? = H[q]?) → va_S A0 H0 H1 locs1 → H1[q9]? = some ce → ce.vm = .none → s.vm.findClass E = some ce.cls → vx_W p l e R s m args below meth c H1 locs1 (cells + mc) (slots + ms) Q (F0 m pc ls rest) q9)
    (kk : ∀ (r : Int32) (u : S) (t : State) (H1 : Heap) (locs1 : List Loc), t.heap = H1 → s.vm.Alike t.vm → post r u → B u t → H.size ≤ H1.size → (∀ q : Nat, q < H.size → ¬ A1 q → H1[q]? = H[q]?) → va_S A0 H0 H1 locs1 → W p l e R s m args below meth c H1 locs1 (cells + mc) (slots + ms) Q (F0 m (pc + 3) ls (.int r :: rest))) : W p l e R s m args below meth c H locs cells slots Q (F0 m pc ls st0) := by
  intro T hT X
  rcases hr T hT X with ⟨v, st₀, t, T', L, h0, X', hL, e1, e2, ⟨⟨r, u, hv, hp, hb⟩, hF⟩, st⟩ | ⟨q, st₀, t, T', L, E, ce, h0, X', hL, e1, e2, ⟨u, hp, hb, hF⟩, hce, hcv, hcl, st⟩
  · cases hv
    obtain ⟨k1, k2, k3⟩ := vx_keep h0 e1 hS hA hf hL hF
    obtain ⟨t2, a1, b1⟩ := kk r u t T'.heap (locs ++ L) e1.symm (by rw [← e2]; exact X'.warmed.alike) hp hb k1 k2 k3 T' rfl X'
    exact ⟨t2, st t2 a1, b1⟩
  · obtain ⟨k1, k2, k3⟩ := vx_keep h0 e1 hS hAX hf hL hF
    obtain ⟨t2, a1, b1⟩ := kx E ce q u t T'.heap (locs ++ L) e1.symm (by rw [← e2]; exact X'.warmed.alike) hp hb k1 k2 k3 (by rw [e1]; exact hce) hcv hcl T' rfl X'
    exact ⟨t2, st.trans a1, b1⟩
end Rows
section Ends
variable {p : Program} {l : Launch} {e : Env} {R : Room} {s : State} {m : MethodId} {args : Array Value} {below : List Frame} {meth : Method} {c : Code} {H : Heap} {locs : List Loc} {cells slots : Nat} {Q : State → Prop}
variable {mc ms : Nat} {free : Addr → Prop} {A0 A1 : Nat → Prop} {H0 : Heap} {a : Array Value} {ls : Array Slot} {st0 rest : List Value}
variable {Qc : Array Value → State → Outcome → State → Prop} {XC : String → State → State → Prop}
def vx_MQ (below : List Frame) (Qc : Array Value → State → Outcome → State → Prop) (XC : String → State → State → Prop) (a : Array Value) (s : State) (mc ms : Nat) (free : Addr → Prop) : State → Prop := fun t =>
  ∃ o, t.status = .running ∧ Ended t below o ∧ vx_Q Qc XC mc ms free a s o t
theorem vx_ret {g : JFrame} {mc ms : Nat} (k : W p l e R s m args below meth c H locs cells slots (MQ below Qc args s mc ms free) g) : W p l e R s m args below meth c H locs cells slots (vx_MQ below Qc XC args s mc ms free) g := by
  intro T hT X
  obtain ⟨t, a1, o, b1, b2, b3, b4⟩ := k T hT X
  exact ⟨t, a1, o, b1, b2, Or.inl ⟨b3, b4⟩⟩
theorem vx_frame {U : State} {k n : Nat} (h : s.sameButNew ({ U with vm := s.vm } : State) locs k n) : s.heap.size ≤ U.heap.size ∧ ∀ q : Nat, q < s.heap.size → (∀ z ∈ locs, z.base ≠ q) → U.heap[q]? = s.heap[q]? := by
  obtain ⟨-, h2, -, -, -, h6⟩ := h
  refine ⟨h2, fun q hq hz => ?_⟩
  obtain ⟨c9, e1, e2, e3, e4⟩ := h6 q _ (Array.getElem?_eq_getElem hq)
  have hs : c9.slots = (s.heap[q]).slots := Array.ext_getElem? fun i => e4 i fun hm => hz _ hm rfl
  have h9 : c9 = s.heap[q] := by
    rw [hs] at e2
    exact e2
  have e5 : U.heap[q]? = some c9 := e1
  rw [e5, h9, Array.getElem?_eq_getElem hq]
def vx_no (w : Cond) : Bool := decide (w ≠ .isRef (.static Bundle.tN "UNASSIGNED_STACK" Bundle.steD)) && decide (w ≠ .isRef (.static Bundle.tN "SUPPRESSED_SENTINEL" Bundle.listD)) && decide (w ≠ .laysStatic Bundle.tN "UNASSIGNED_STACK" Bundle.steD) && decide (w ≠ .laysStatic Bundle.tN "SUPPRESSED_SENTINEL" Bundle.listD)
def vx_at0 (own : String) (ic : Nat) (X : String) (names : List String) : List Cond := (Bundle.ownAtoms0 own ic X names).filter vx_no
def vx_ot (w : Cond) : Bool := w.onTables || goodWord w
theorem vx_ot_at {args a' : Array Value} {s U : State} {w : Cond} (hW : s.WarmedH U.vm) (hvm : s.vm = U.vm) (hg : vx_ot w = true) (h : w.before args s = true) : w.before a' U = true := by
  simp only [vx_ot, Bool.or_eq_true] at hg
  rcases hg with hg | hg
  · exact va_tabs hg hvm h
  · exact word_at hW (good_of_word hg) h
theorem vx_own {args : Array Value} {s : State} {L : List Cond} (h1 : ∀ w ∈ L.filter vx_no, w.before args s = true)
    (hU : (Cond.isRef (.static Bundle.tN "UNASSIGNED_STACK" Bundle.steD)).before args s = true) (hN : (Cond.isRef (.static Bundle.tN "SUPPRESSED_SENTINEL" Bundle.listD)).before args s = true)
    (lU : (Cond.laysStatic Bundle.tN "UNASSIGNED_STACK" Bundle.steD).before args s = true) (lN : (Cond.laysStatic Bundle.tN "SUPPRESSED_SENTINEL" Bundle.listD).before args s = true) : ∀ w ∈ L, w.before args s = true := by
  intro w hw
  by_cases e1 : w = .isRef (.static Bundle.tN "UNASSIGNED_STACK" Bundle.steD)
  · rw [e1]; exact hU
  · by_cases e2 : w = .isRef (.static Bundle.tN "SUPPRESSED_SENTINEL" Bundle.listD)
    · rw [e2]; exact hN
    · by_cases e3 : w = .laysStatic Bundle.tN "UNASSIGNED_STACK" Bundle.steD
      · rw [e3]; exact lU
      · by_cases e4 : w = .laysStatic Bundle.tN "SUPPRESSED_SENTINEL" Bundle.listD
        · rw [e4]; exact lN
        · exact h1 w (List.mem_filter.mpr ⟨hw, by unfold vx_no; rw [decide_eq_true e1, decide_eq_true e2, decide_eq_true e3, decide_eq_true e4]; rfl⟩)
def vx_L (C n d : String) (A : Nat → Prop) (U : State) (H : Heap) : Prop := ∃ (c : ClassId) (k : Class) (i : Nat) (f : Field) (a : Nat) (cell : Cell), U.vm.findClass C = some c ∧ U.fieldFound? C n d = some (c, k, i, f) ∧ f.isStatic = true ∧ k.statics = some a ∧ H[a]? = some cell ∧ cell.vm.isStatics = true ∧ cell.cls = c ∧ f.slot < cell.slots.size ∧ k.staticTypes[f.slot]? = some f.type ∧ ¬ A a
theorem vx_L.moved {C n d : String} {A : Nat → Prop} {u U : State} {H : Heap} (hvm : u.vm.Alike U.vm) (h : vx_L C n d A u H) : vx_L C n d A U H := by
  obtain ⟨c, k, i, f, a, cell, h1, h2, h3, h4, h5, h6, h7, h8, h9, h10⟩ := h
  obtain ⟨k', hi', he⟩ := State.fieldFound?_setVm hvm h2
  exact ⟨c, k', i, f, a, cell, by rw [hvm.findClass]; exact h1, hi', h3, by rw [he]; exact h4, h5, h6, h7, h8, by rw [he]; exact h9, h10⟩
theorem vx_L.kept {C n d : String} {A : Nat → Prop} {U : State} {H H1 : Heap} (h : vx_L C n d A U H) (hq : ∀ a : Nat, a < H.size → ¬ A a → H1[a]? = H[a]?) : vx_L C n d A U H1 := by
  obtain ⟨c, k, i, f, a, cell, h1, h2, h3, h4, h5, h6, h7, h8, h9, h10⟩ := h
  exact ⟨c, k, i, f, a, cell, h1, h2, h3, h4, by rw [hq a (Array.getElem?_eq_some_iff.mp h5).1 h10]; exact h5, h6, h7, h8, h9, h10⟩
theorem vx_L.narrow {C n d : String} {A B : Nat → Prop} {U : State} {H : Heap} (h : vx_L C n d A U H) (hAB : ∀ q, B q → A q) : vx_L C n d B U H := by
  obtain ⟨c, k, i, f, a, cell, h1, h2, h3, h4, h5, h6, h7, h8, h9, h10⟩ := h
  exact ⟨c, k, i, f, a, cell, h1, h2, h3, h4, h5, h6, h7, h8, h9, fun z => h10 (hAB _ z)⟩
theorem vx_L.word {C n d : String} {A : Nat → Prop} {s : State} {args : Array Value} (h : vx_L C n d A s s.heap) : (Cond.laysStatic C n d).before args s = true := by
  obtain ⟨c, k, i, f, a, cell, h1, h2, h3, h4, h5, h6, h7, h8, h9, -⟩ := h
  show (Cond.laysStatic C n d).holds args s none s [] = true
  exact Cond.laysStatic_of h1 h2 h3 h4 h5 h6 h7 h8 h9
def vx_Zq (C n d : String) (A : Nat → Prop) (U : State) (H : Heap) : Prop := va_Zq C n d A U H ∧ vx_L C n d A U H
theorem vx_Zq.moved {C n d : String} {A : Nat → Prop} {u U : State} {H : Heap} (hvm : u.vm.Alike U.vm) (h : vx_Zq C n d A u H) : vx_Zq C n d A U H := ⟨va_Zq.moved hvm h.1, vx_L.moved hvm h.2⟩
theorem vx_Zq.kept {C n d : String} {A : Nat → Prop} {U : State} {H H1 : Heap} (h : vx_Zq C n d A U H) (hq : ∀ a : Nat, a < H.size → ¬ A a → H1[a]? = H[a]?) : vx_Zq C n d A U H1 := ⟨va_Zq.kept h.1 hq, vx_L.kept h.2 hq⟩
theorem vx_Zq.narrow {C n d : String} {A B : Nat → Prop} {U : State} {H : Heap} (h : vx_Zq C n d A U H) (hAB : ∀ q, B q → A q) : vx_Zq C n d B U H := ⟨va_Zq.narrow h.1 hAB, vx_L.narrow h.2 hAB⟩
theorem vx_Zqof {args : Array Value} {s : State} {C n d : String} {A : Nat → Prop} (hl : (Cond.laysStatic C n d).before args s = true) (hini : (Cond.initialized C).before args s = true) (h : (Cond.isRef (.static C n d)).before args s = true) (hA : ∀ a : Nat, a < s.heap.size → ¬ A a) : vx_Zq C n d A s s.heap := by
  refine ⟨va_Zqof hl hini h hA, ?_⟩
  obtain ⟨c, k, i, f, a, cell, h1, h2, h3, h4, h5, h6, h7, h8, h9⟩ := Cond.laysStatic_spec hl
  exact ⟨c, k, i, f, a, cell, h1, h2, h3, h4, h5, h6, h7, h8, h9, hA a (Array.getElem?_eq_some_iff.mp h5).1⟩
theorem vx_isRef {C n d : String} {v : Value} {A : Nat → Prop} {s : State} {args : Array Value} (h : va_Z C n d v A s s.heap) (hv : v.isRef = true) : (Cond.isRef (.static C n d)).before args s = true := by
  obtain ⟨cf, kf, fi, f, a, cell, h1, h2, h3, h4, h5, h6, h7, -⟩ := h
  have he : (Term.static C n d).eval args s none [] s = some v := by
    simp [Term.eval, State.fieldNamed?, h1, h2, h4, h5, h6, h7]
  simp only [Cond.before, Cond.holds, Cond.value, he]
  cases v <;> simp_all [Value.isRef]
theorem vx_isRefq {C n d : String} {A : Nat → Prop} {s : State} {args : Array Value} (h : va_Zq C n d A s s.heap) : (Cond.isRef (.static C n d)).before args s = true := by
  rcases h with h | ⟨t, h⟩
  · exact vx_isRef h rfl
  · exact vx_isRef h rfl
theorem vx_rebase {T : State} (X : Stand p l e R s m args below meth c T locs cells slots) {R' : Room} (hf : R'.frames ≤ R.frames) (hl : R'.locals ≤ R.locals) (hc : cells + R'.cells ≤ R.cells) (hs : slots + R'.slots ≤ R.slots) :
    Stand p l e R' ((T.setVm s.vm).setFrames (.invoking m args :: below)) m args below meth c T [] 0 0 := by
  have htop : (T.setVm s.vm).topJava?.isSome := X.here.top
  have hF : ((T.setVm s.vm).setFrames (.invoking m args :: below)).frames = .invoking m args :: below := State.frames_setFrames _ (State.cur_lt_of_top htop)
  obtain ⟨g₀, hg0⟩ := Option.isSome_iff_exists.mp htop
  obtain ⟨r, hr⟩ := State.topJava?_eq_some.mp hg0
  have hl9 : e.platform.stackLimits (T.setVm s.vm).me = e.platform.stackLimits s.me := X.limits
  have hb9 : (T.setVm s.vm).me.stackBytes = s.me.stackBytes := X.bytes
  refine ⟨X.admits, X.cas, X.clock, hF, ?_, X.hears, X.method, X.code, X.here, X.tail, X.warmed, ?_, ?_, ?_⟩
  · have h := X.room
    have hU : ((T.setVm s.vm).setFrames (.invoking m args :: below)).localsInUse = s.localsInUse := by
      rw [State.localsInUse_invoking hF (meth := meth) (c := c) X.method X.code, State.localsInUse_invoking X.frames X.method X.code]
    simp only [State.hasRoom, Bool.and_eq_true, decide_eq_true_eq] at h ⊢
    obtain ⟨⟨⟨⟨h1, h2, h3, h4, h5, h6⟩, h7⟩, h8⟩, h9⟩ := h
    rw [X.frames, List.length_cons] at h2 h3
    have q1 := X.heapSize
    have q2 := X.used
    simp only [hF, hU, List.length_cons, State.stackLimits_setFrames, State.stackBytes_setFrames, hl9, hb9]
    refine ⟨⟨⟨⟨by omega, by omega, by omega, by omega, by omega, h6⟩, ?_⟩, ?_⟩, X.book⟩
    · show T.heap.size + R'.cells ≤ e.platform.maxCells
      omega
    · show T.slotsUsed + R'.slots ≤ e.platform.maxSlots
      omega
  · rw [State.stackLimits_setFrames]; rfl
  · rw [State.stackBytes_setFrames]; rfl
  · refine ⟨?_, Nat.le_refl _, Nat.le_refl _, ?_, ?_, fun a c9 h9 => ⟨c9, h9, rfl, rfl, fun _ _ => rfl⟩⟩
    · obtain ⟨t, ht, -⟩ := State.frames_cons hr
      show T.setVm s.vm = { ((T.setVm s.vm).setFrames (.invoking m args :: below)).setFrames (T.setVm s.vm).frames with heap := T.heap, slotsUsed := T.slotsUsed }
      rw [State.setFrames_setFrames, State.setFrames_self ht]
      rfl
    · show T.slotsUsed = T.slotsUsed + ((T.heap.toList.drop T.heap.size).map (·.slots.size)).sum
      rw [List.drop_eq_nil_of_le (Nat.le_of_eq Array.length_toList)]
      rfl
    · show ((T.heap.toList.drop T.heap.size).map (·.slots.size)).sum ≤ 0
      rw [List.drop_eq_nil_of_le (Nat.le_of_eq Array.length_toList)]
      exact Nat.le_refl _
theorem vx_throw0 {cc : ByteArray} {pc : Nat} (hexec : p.tables.exec = Jvm.exec) (hb : c.code = cc) (hl : l.stackTraces = false) {own cls : String} {names : List String} {ik ic mc ms : Nat} {A : Nat → Prop}
    (hown : s.vm.findClass own = some m.cls) (hcls : Bundle.fit cls = true) (hnames : ∀ n ∈ names, Bundle.fit n = true)
    (hk : (Cond.classLink own ik cls).before args s = true) (hini : (Cond.initialized cls).before args s = true) (hat : ∀ w ∈ vx_at0 own ic cls names, w.before args s = true)
    (hgood : ∀ w ∈ Cond.classLink own ik cls :: Cond.initialized cls :: vx_at0 own ic cls names, vx_ot w = true)
    (hU : vx_Zq Bundle.tN "UNASSIGNED_STACK" Bundle.steD A s s.heap) (hN : vx_Zq Bundle.tN "SUPPRESSED_SENTINEL" Bundle.listD A s s.heap) (hS : va_S A s.heap H locs) (hsize : ls.size = c.maxLocals)
    (d0 : decode cc pc = .ok (.new ik, 3)) (d3 : decode cc (pc + 3) = .ok (.dup, 1)) (d4 : decode cc (pc + 4) = .ok (.invokespecial ic, 3)) (d7 : decode cc (pc + 7) = .ok (.athrow, 1))
    (hout : ∀ x ∈ c.exceptionTable.toList, covers x (pc + 7) = false)
    (hRframes : names.length + 3 < R.frames) (hRlocals : (rest.map fun v => v.category).sum + (13 * (names.length + 1) + 42) ≤ R.locals) (hRcells : cells + 1 ≤ R.cells) (hRslots : slots + 6 ≤ R.slots) (hlocks : meth.locks = false)
    (hx : ∀ t : State, s.vm.Alike t.vm → H.size ≤ t.heap.size → (∀ q : Nat, q < H.size → t.heap[q]? = H[q]?) → XC cls s t)
    (hf : ∀ z ∈ locs, free z.base) (hc : cells + 1 ≤ mc) (hs : slots + 6 ≤ ms) :
    W p l e R s m args below meth c H locs cells slots (vx_MQ below Qc XC args s mc ms free) (F0 m pc ls rest) := by
  intro T hT X
  have htr : e.platform.stackTraces = false := (show e.platform.stackTraces = l.stackTraces by rw [X.admits.platform]).trans hl
  have Y := vx_rebase X (R' := { frames := R.frames, locals := R.locals, cells := 1, slots := 6 }) (Nat.le_refl _) (Nat.le_refl _) hRcells hRslots
  obtain ⟨s', hA⟩ : ∃ z, z = (T.setVm s.vm).setFrames (.invoking m args :: below) := ⟨_, rfl⟩
  rw [← hA] at Y
  have hvm : s'.vm = s.vm := by rw [hA]; rfl
  have hhp : s'.heap = H := by rw [hA]; exact hT
  have hW0 : s.WarmedH s'.vm := by rw [hvm]; exact State.WarmedH.refl s
  have hat' : ∀ w ∈ vx_at0 own ic cls names, w.before args s' = true := fun w hw => vx_ot_at hW0 hvm.symm (hgood w (List.mem_cons_of_mem _ (List.mem_cons_of_mem _ hw))) (hat w hw)
  have hk' : (Cond.classLink own ik cls).before args s' = true := vx_ot_at hW0 hvm.symm (hgood _ List.mem_cons_self) hk
  have hini' : (Cond.initialized cls).before args s' = true := vx_ot_at hW0 hvm.symm (hgood _ (List.mem_cons_of_mem _ List.mem_cons_self)) hini
  have hU' : vx_Zq Bundle.tN "UNASSIGNED_STACK" Bundle.steD A s' s'.heap := by rw [hhp]; exact vx_Zq.moved hW0.alike (hU.kept hS.2.1)
  have hN' : vx_Zq Bundle.tN "SUPPRESSED_SENTINEL" Bundle.listD A s' s'.heap := by rw [hhp]; exact vx_Zq.moved hW0.alike (hN.kept hS.2.1)
  have h : ∀ w ∈ Bundle.ownAtoms0 own ic cls names, w.before args s' = true := vx_own hat' (vx_isRefq hU'.1) (vx_isRefq hN'.1) hU'.2.word hN'.2.word
  have hown' : s'.vm.findClass own = some m.cls := by rw [hvm]; exact hown
  have hins : (Cond.instantiable cls 6).before args s' = true := h _ (by simp [Bundle.ownAtoms0])
  obtain ⟨vm₁, cX, kX, hfX, hkX, -, -, X₁, st1⟩ := Y.newCold hexec (own := own) (C := cls) (index := ik) (n := 6) hown' hk' hins hini'
    (g := F0 m pc ls rest) rfl (by rw [hb]; exact d0) (Nat.le_refl _) (Nat.le_refl _)
  generalize hT1 : (T.setVm vm₁).pushCell { cls := cX, slots := kX.instanceTypes.map defaultValue, vm := .none } = T1 at X₁ st1
  have hcat : (Value.ref T.heap.size).category = 1 := rfl
  have hcellA : T1.heap[T.heap.size]? = some (freshCell cX kX) := by rw [← hT1]; exact State.heap_pushCell_size _ _
  have d3' : decode c.code (pc + 3) = .ok (.dup, 1) := by rw [hb]; exact d3
  obtain ⟨U, hsteps, hrun, hend, hW, hsame, ce, hce, hO⟩ := X₁.ctorThrow0 hexec htr (own := own) (cls := cls) (names := names) (ic := ic) hown' hcls hnames h (fun x hx => nomatch hx) hfX hkX hcellA (by rw [hhp, hT]; exact Nat.le_refl _)
    (g := { method := m, pc := pc + 4, locals := ls, stack := .ref T.heap.size :: .ref T.heap.size :: rest, locked := none }) rfl hsize rfl rfl (rest := rest) rfl
    (by rw [hb]; exact d4) (by rw [hb]; exact d7) hout hRframes (by simp only [List.map_cons, List.sum_cons, hcat]; omega) hlocks
  obtain ⟨f1, f2⟩ := vx_frame hsame
  rw [hhp] at f1 f2
  have hWs : s.WarmedH U.vm := State.WarmedH.trans hW0 hW
  have hcl : s.vm.findClass cls = some ce.cls := by
    have h9 := hO.cls
    rw [hvm] at h9
    exact h9
  have hall : s.sameButNew ({ U with vm := s.vm } : State) locs mc ms := by
    subst hA
    obtain ⟨e1, e2⟩ := hsame
    rw [State.setFrames_setFrames] at e1
    have h2 : (T.setVm s.vm).sameButNew ({ U with vm := s.vm } : State) [] (0 + 1) (0 + 6) := ⟨e1, e2⟩
    have h3 := X.same.trans h2
    rw [List.append_nil] at h3
    exact h3.mono hc hs
  refine ⟨U, ?_, .threw T.heap.size, hrun, hend, Or.inr ⟨T.heap.size, rfl, cls, ce, locs, hx U hWs.alike f1 (fun q hq => f2 q hq (fun z hz => nomatch hz)), hce, hO.vm, hcl, hWs, hall, hf⟩⟩
  refine st1 _ ?_
  show Steps p.tables e below (T1.setTop { method := m, pc := pc + 3, locals := ls, stack := .ref T.heap.size :: rest, locked := none }) _
  jvm_step X₁.here [X₁.here.top, hexec, d3', Value.category]
  exact hsteps
end Ends
section Bodies
variable {l : Launch}
theorem vx_ofW {y : MethodName} {ws ws' : List Cond} {rm : Room} {Pc : Array Value → State → Prop} {Qc : Array Value → State → Outcome → State → Prop} {XC : String → State → State → Prop} {mc ms : Nat} {free : Addr → Prop} {cc : ByteArray} {maxL : Nat} {ret : Option FieldType}
    (hy : plainName y.cls = true) (hw : ws = Cond.code y cc maxL ret :: ws')
    (body : ∀ p e s m args below meth c s₁, BodyLoose p l y (headSpec ws rm) cc maxL ret e s m args below meth c s₁ → c.maxLocals = maxL → (∀ x ∈ c.exceptionTable.toList, False) → Pc args s →
      W p l e (headSpec ws rm).room s m args below meth c s.heap [] 0 0 (vx_MQ below Qc XC args s mc ms free) (entryFrame m args maxL)) : vx_Met l y ws rm Pc Qc XC mc ms free := by
  refine MetFree.of_bodyS (code := cc) (maxLocals := maxL) (ret := ret) hy ?_ ?_
  · intro args s m h hn
    obtain ⟨meth, c, h1, h2, h3, h4, h5, h6, -, -⟩ := Cond.code_spec hn (atoms_spec (ws := ws) h _ (by rw [hw]; exact List.mem_cons_self))
    exact ⟨meth, c, h1, h2, h3, h4, h5, h6⟩
  · intro p e s m args below meth c s₁ B hml hP _
    have hh0 : s₁.heap = s.heap := by rw [B.state]; rfl
    have ht : ∀ x ∈ c.exceptionTable.toList, False := by
      obtain ⟨meth9, c9, h1, h2, -, -, -, -, h7, -⟩ := Cond.code_spec B.named (atoms_spec (ws := ws) B.pre _ (by rw [hw]; exact List.mem_cons_self))
      cases Option.some.inj (h1.symm.trans B.method)
      cases Option.some.inj (h2.symm.trans (Stand.of_body B).code)
      intro x hx
      rw [Array.isEmpty_iff.mp h7] at hx
      cases hx
    obtain ⟨t, a1, o, b1, b2, b3⟩ := body p e s m args below meth c s₁ B hml ht hP s₁ hh0 (Stand.of_body B)
    exact ⟨t, o, a1, b1, b2, b3⟩
theorem vx_table {p : Program} {x y : MethodName} {S : Spec} {cc bytes : ByteArray} {maxL maxL' : Nat} {ret ret' : Option FieldType} {e : Env} {s s₁ : State} {m : MethodId} {args : Array Value} {below : List Frame} {meth : Method} {c : Code} {hh : List (Nat × Nat × Nat × Nat)}
    (B : BodyLoose p l y S cc maxL ret e s m args below meth c s₁) (h : (Cond.codeWith y bytes maxL' ret' hh).before args s = true) : c.exceptionTable.toList = tableOf hh := by
  obtain ⟨m9, meth9, c9, hn9, h1, h2, -, -, h6, -⟩ := Cond.codeWith_spec h
  cases Option.some.inj (hn9.symm.trans B.named)
  cases Option.some.inj (h1.symm.trans B.method)
  cases Option.some.inj (h2.symm.trans (Stand.of_body B).code)
  rw [← h6, table_eq]
end Bodies
end VXA
section VXS
variable {p : Program} {l : Launch} {e : Env} {R : Room} {s : State} {m : MethodId} {args : Array Value} {below : List Frame} {meth : Method} {c : Code} {T : State} {H : Heap} {locs : List Loc} {cells slots : Nat}
abbrev vx_CSW (R : Room) (s : State) (args : Array Value) (own : String) (index : Nat) (y : MethodName) (bytes : ByteArray) (maxL : Nat) (ret : Option FieldType) (hh : List (Nat × Nat × Nat × Nat)) (ws : List Cond) (rm : Room) (mc ms n : Nat) : Prop :=
  (rm.cells = mc ∧ rm.slots = ms ∧ rm.frames + 1 ≤ R.frames ∧ 8 + (maxL + 11) + rm.locals ≤ R.locals ∧ (∀ w ∈ ws, ∀ (a' : Array Value) (U : State), s.WarmedH U.vm → w.before a' U = true) ∧ Cond.codeWith y bytes maxL ret hh ∈ ws) ∧
  (Cond.codeWith y bytes maxL ret hh).before args s = true ∧ (Cond.initialized y.cls).before args s = true ∧ (y.cls ≠ "java/lang/invoke/MethodHandle" ∧ y.cls ≠ "java/lang/invoke/VarHandle") ∧
  (∀ sig, parseMethodDescriptor y.desc = some sig → n = sig.parameters.length) ∧ (Cond.methodLink own index y).before args s = true ∧ (Cond.static y).before args s = true
theorem vx_cwSW {own : String} {index maxL mc ms : Nat} {y : MethodName} {bytes : ByteArray} {ret : Option FieldType} {hh : List (Nat × Nat × Nat × Nat)} {Ts ws ws' : List Cond} {rm : Room} (n : Nat) (ht : ∀ w ∈ Ts, w.before args s = true) (hT : GoodIn Ts (va_wsS own index y ws)) (hw : ws = Cond.codeWith y bytes maxL ret hh :: ws') (hrc : rm.cells = mc) (hrs : rm.slots = ms)
    (hd : y.cls ≠ "java/lang/invoke/MethodHandle" ∧ y.cls ≠ "java/lang/invoke/VarHandle" ∧ (parseMethodDescriptor y.desc).map (fun d => d.parameters.length) = some n) (hR : rm.frames + 1 ≤ R.frames ∧ 8 + (maxL + 11) + rm.locals ≤ R.locals) :
    vx_CSW R s args own index y bytes maxL ret hh ws rm mc ms n := by
  have ok : ∀ w ∈ va_wsS own index y ws, w.before args s = true := fun w h => ht w (hT w h).1
  have hG : GoodIn Ts ws := fun w h => hT w (by unfold va_wsS; exact List.mem_append_right _ h)
  have hc : Cond.codeWith y bytes maxL ret hh ∈ ws := by rw [hw]; exact List.mem_cons_self
  refine ⟨⟨hrc, hrs, hR.1, hR.2, pay_in ht hG, hc⟩, ht _ (hG _ hc).1, ok _ (by simp [va_wsS]), ⟨hd.1, hd.2.1⟩, fun sig h => ?_, ok _ (by simp [va_wsS]), ok _ (by simp [va_wsS])⟩
  have h2 := hd.2.2
  rw [h] at h2
  exact (Option.some.inj h2).symm
end VXS
section VXH
section
variable {l : Launch} {R : Room} {p : Program} {e : Env} {below : List Frame} {s : State} {sargs : Array Value} {y : MethodName} {len W9 : Nat}
theorem vx_backW {ws : List Cond} {rm : Room} {Pc : Array Value → State → Prop} {Qc : Array Value → State → Outcome → State → Prop} {XC : String → State → State → Prop} {mc ms : Nat} {free : Addr → Prop} {bytes : ByteArray} {maxL : Nat} {ret : Option FieldType} {hh : List (Nat × Nat × Nat × Nat)}
    (hM : vx_Met l y ws rm Pc Qc XC mc ms free) (hblind : FrameBlind Pc) (hrc : rm.cells = mc) (hrs : rm.slots = ms)
    (hframes : rm.frames + 1 ≤ R.frames) (hlocals : W9 + (maxL + 11) + rm.locals ≤ R.locals)
    (hws : ∀ w ∈ ws, ∀ a' U, s.WarmedH U.vm → w.before a' U = true) (hcode : Cond.codeWith y bytes maxL ret hh ∈ ws) (hinit : ∀ a' U, s.WarmedH U.vm → (Cond.initialized y.cls).before a' U = true) :
    vx_Back l R p e below s sargs y len W9 (PreOf R mc ms Pc) (PostOf Qc mc ms free) (vx_Post XC mc ms free) := by
  intro m meth c A g ig mk a X hg hsize hdg hW hn hp
  have h1 : (headSpec ws rm).pre.before a A.U = true := atoms_intro fun w hw => hws w hw _ _ X.warmed
  have h2 : (Cond.codeWith y bytes maxL ret hh).before a A.U = true := hws _ hcode _ _ X.warmed
  have h3 : (Cond.initialized y.cls).before a A.U = true := hinit _ _ X.warmed
  have h4 : A.cells + (headSpec ws rm).room.cells ≤ R.cells := by rw [show (headSpec ws rm).room.cells = mc from hrc]; exact hp.1
  have h5 : A.slots + (headSpec ws rm).room.slots ≤ R.slots := by rw [show (headSpec ws rm).room.slots = ms from hrs]; exact hp.2.1
  have hPc : Pc a (A.U.calling g mk a) := hblind _ _ _ _ hp.2.2
  obtain ⟨U, Ls, c0, s0⟩ := A
  dsimp only [Pt.U, Pt.locs, Pt.cells, Pt.slots] at h1 h2 h3 h4 h5 X hn hPc ⊢
  obtain ⟨m9, methY, cY, hn9, hmY, hcY, -, hlY, -⟩ := Cond.codeWith_spec h2
  cases Option.some.inj (hn9.symm.trans hn)
  obtain ⟨kY, hkY, -⟩ := className_of_methodNamed hn
  have hinitY : kY.init = .initialized := Cond.initialized_spec (findClass_of_methodNamed hn) hkY h3
  have h : At U g.method c below := by rw [hg]; exact X.here
  have hlocals9 : W9 + (maxL + 11) + (headSpec ws rm).room.locals ≤ R.locals := hlocals
  have happ : (headSpec ws rm).appliesLoose y e.platform (U.calling g mk a) = true :=
    Spec.appliesLoose_calling (g := g) h hdg hn hkY hinitY
      (X.room_calling (g := g) (R' := (headSpec ws rm).room) hsize hmY hcY hframes (by rw [hlY]; omega) h4 h5) h1
  obtain ⟨mid, hmid⟩ := h.above
  have hfr : (U.setTop g).frames = (.java g :: mid) ++ below := by rw [State.frames_setTop' g h.top, hmid]; rfl
  obtain ⟨o, s₂, hsteps, -, hend, hq⟩ := Steps.callFree hM p X.admits X.cas X.clock (acts := []) hfr happ hPc trivial
  have hq' : vx_Q Qc XC mc ms free a (U.calling g mk a) o s₂ := hq
  rw [State.frames_setTop' g h.top] at hend
  obtain ⟨g₀, hg0⟩ := Option.isSome_iff_exists.mp h.top
  obtain ⟨r, hr⟩ := State.topJava?_eq_some.mp hg0
  have hr' : (({ U with heap := s₂.heap, slotsUsed := s₂.slotsUsed } : State).setVm s₂.vm).frames = .java g₀ :: r := hr
  rcases hq' with ⟨hqc, L, hfe, hL⟩ | ⟨q, rfl, E, ce, L, hx, hce, hcv, hcl, hW₂, hsm, hL⟩
  · obtain ⟨⟨v, rfl⟩, hW₂, e2, q2, q3, q4, q5, q6⟩ := id hfe
    have e3 : s₂ = ({ (U.calling g mk a).setFrames s₂.frames with heap := s₂.heap, slotsUsed := s₂.slotsUsed } : State).setVm s₂.vm := by
      have : s₂ = ({ s₂ with vm := (U.calling g mk a).vm } : State).setVm s₂.vm := rfl
      rw [e2] at this
      exact this
    obtain ⟨c₂, i₂, len₂, hc₂, hd₂, hf₂⟩ := hend
    have hW' : U.WarmedH s₂.vm := hW₂
    have hcc : c₂ = c := by
      have h1 : s₂.code? g.method = U.code? g.method := by
        rw [State.code?_eq, State.code?_eq, hW'.alike.method?]
      exact Option.some.inj (hc₂.symm.trans (h1.trans h.code))
    subst hcc
    have hlen : len₂ = len := by rw [hdg] at hd₂; cases hd₂; rfl
    subst hlen
    have hs₂ : s₂ = (({ U with heap := s₂.heap, slotsUsed := s₂.slotsUsed } : State).setVm s₂.vm).setTop { g with pc := g.pc + len₂, stack := v.toList ++ g.stack } := by
      refine e3.trans ?_
      rw [hf₂, State.calling_eq h.top, State.setFrames_setFrames, State.setTop_of_frames _ hr', hr]
      rfl
    have hsame : U.sameButNew ({ U with heap := s₂.heap, slotsUsed := s₂.slotsUsed } : State) L mc ms := by
      refine ⟨?_, q2, q3, q4, q5, q6⟩
      obtain ⟨t, ht, -⟩ := State.frames_cons hr
      show ({ U with heap := s₂.heap, slotsUsed := s₂.slotsUsed } : State) = { U.setFrames U.frames with heap := s₂.heap, slotsUsed := s₂.slotsUsed }
      rw [State.setFrames_self ht]
    subst hg
    refine Or.inl ⟨v, ⟨(({ U with heap := s₂.heap, slotsUsed := s₂.slotsUsed } : State).setVm s₂.vm), Ls ++ L, c0 + mc, s0 + ms⟩,
      ⟨X.admits, X.cas, X.clock, X.frames, X.room, X.hears, X.method, X.code, (X.here.setHeapUsed s₂.heap s₂.slotsUsed).setVm hW'.alike, X.tail, State.WarmedH.trans X.warmed hW', X.limits, X.bytes, X.same.trans (hsame.setVm s.vm)⟩,
      ⟨g, mk, s₂, L, rfl, rfl, hqc, rfl, hL, rfl, rfl⟩, ?_⟩
    show Steps p.tables e below _ ((({ U with heap := s₂.heap, slotsUsed := s₂.slotsUsed } : State).setVm s₂.vm).setTop { g with pc := g.pc + len₂, stack := v.toList ++ g.stack })
    rw [← hs₂]
    exact hsteps
  · obtain ⟨e2, q2, q3, q4, q5, q6⟩ := id hsm
    have e3 : s₂ = ({ (U.calling g mk a).setFrames s₂.frames with heap := s₂.heap, slotsUsed := s₂.slotsUsed } : State).setVm s₂.vm := by
      have : s₂ = ({ s₂ with vm := (U.calling g mk a).vm } : State).setVm s₂.vm := rfl
      rw [e2] at this
      exact this
    have hf₂ : s₂.frames = .throwing q :: .java g :: U.frames.tail := hend
    have hW' : U.WarmedH s₂.vm := hW₂
    have hs₂ : s₂ = ((({ U with heap := s₂.heap, slotsUsed := s₂.slotsUsed } : State).setVm s₂.vm).setTop g).pushFrame (.throwing q) := by
      refine e3.trans ?_
      rw [hf₂, State.calling_eq h.top, State.setFrames_setFrames, State.pushFrame, State.frames_setTop _ hr', State.setTop_of_frames _ hr', State.setFrames_setFrames, hr]
      rfl
    have hsame : U.sameButNew ({ U with heap := s₂.heap, slotsUsed := s₂.slotsUsed } : State) L mc ms := by
      refine ⟨?_, q2, q3, q4, q5, q6⟩
      obtain ⟨t, ht, -⟩ := State.frames_cons hr
      show ({ U with heap := s₂.heap, slotsUsed := s₂.slotsUsed } : State) = { U.setFrames U.frames with heap := s₂.heap, slotsUsed := s₂.slotsUsed }
      rw [State.setFrames_self ht]
    subst hg
    refine Or.inr ⟨q, ⟨(({ U with heap := s₂.heap, slotsUsed := s₂.slotsUsed } : State).setVm s₂.vm), Ls ++ L, c0 + mc, s0 + ms⟩,
      ⟨X.admits, X.cas, X.clock, X.frames, X.room, X.hears, X.method, X.code, (X.here.setHeapUsed s₂.heap s₂.slotsUsed).setVm hW'.alike, X.tail, State.WarmedH.trans X.warmed hW', X.limits, X.bytes, X.same.trans (hsame.setVm s.vm)⟩,
      ⟨g, mk, s₂, L, E, ce, rfl, rfl, hx, hce, hcv, hcl, rfl, hL, rfl, rfl⟩, ?_⟩
    show Steps p.tables e below _ (((({ U with heap := s₂.heap, slotsUsed := s₂.slotsUsed } : State).setVm s₂.vm).setTop g).pushFrame (.throwing q))
    rw [← hs₂]
    exact hsteps
end
variable {p : Program} {l : Launch} {e : Env} {R : Room} {s : State} {m : MethodId} {args : Array Value} {below : List Frame} {meth : Method} {c : Code} {T : State} {H : Heap} {locs : List Loc} {cells slots : Nat}
theorem vx_callSX (X : Stand p l e R s m args below meth c T locs cells slots) (hexec : p.tables.exec = Jvm.exec) {own : String} {index : Nat} {y : MethodName} {bytes : ByteArray} {maxL : Nat} {ret : Option FieldType} {hh : List (Nat × Nat × Nat × Nat)}
    (hown : s.vm.findClass own = some m.cls) (hlink : (Cond.methodLink own index y).before args s = true) (hstat : (Cond.static y).before args s = true) (hinit : (Cond.initialized y.cls).before args s = true)
    (hcode : (Cond.codeWith y bytes maxL ret hh).before args s = true) (hy : y.cls ≠ "java/lang/invoke/MethodHandle" ∧ y.cls ≠ "java/lang/invoke/VarHandle")
    {W9 : Nat} {Pre : Pt → Array Value → Prop} {Post : Pt → Array Value → Option Value → Pt → Prop} {PostX : Pt → Array Value → Addr → Pt → Prop} (hK : vx_Back l R p e below s args y 3 W9 Pre Post PostX)
    {g : JFrame} (hg : g.method = m) (hsize : g.locals.size = c.maxLocals) {argsL rest : List Value} (hlen : ∀ sig, parseMethodDescriptor y.desc = some sig → argsL.length = sig.parameters.length)
    (hstack : g.stack = argsL.reverse ++ rest) (hW : 2 * g.monitorRoom + (rest.map fun v => v.category).sum ≤ W9) (hdg : decode c.code g.pc = .ok (.invokestatic index, 3))
    (hpre : ∀ vm₁, s.WarmedH vm₁ → Pre ⟨T.setVm vm₁, locs, cells, slots⟩ argsL.toArray) :
    (∃ (v : Option Value) (vm₁ : Vm) (B : Pt), s.WarmedH vm₁ ∧ Stand p l e R s m args below meth c B.U B.locs B.cells B.slots ∧ Post ⟨T.setVm vm₁, locs, cells, slots⟩ argsL.toArray v B ∧
      ∀ target, Steps p.tables e below (B.U.setTop { g with pc := g.pc + 3, stack := v.toList ++ rest }) target → Steps p.tables e below (T.setTop g) target) ∨
    (∃ (q : Addr) (vm₁ : Vm) (B : Pt), s.WarmedH vm₁ ∧ Stand p l e R s m args below meth c B.U B.locs B.cells B.slots ∧ PostX ⟨T.setVm vm₁, locs, cells, slots⟩ argsL.toArray q B ∧
      Steps p.tables e below (T.setTop g) ((B.U.setTop { g with stack := rest }).pushFrame (.throwing q))) := by
  obtain ⟨mk, methM, cM, hnamed, hmethM, -, -, -, -, -, -, hsigM⟩ := Cond.codeWith_spec hcode
  have hstatic : methM.isStatic = true := Cond.static_spec hnamed hmethM hstat
  obtain ⟨kP, hkP, -⟩ := className_of_methodNamed hnamed
  have hinitP : kP.init = .initialized := Cond.initialized_spec (findClass_of_methodNamed hnamed) hkP hinit
  obtain ⟨vm₁, X₁, hstep₁⟩ := X.invokestatic hexec hown hlink hnamed hmethM hstatic hkP hinitP hy (g := g) hg (argsL := argsL) (rest := rest) (hlen _ hsigM) hstack hdg
  rcases hK m meth c ⟨T.setVm vm₁, locs, cells, slots⟩ { g with stack := rest } (.invokestatic index) mk argsL.toArray X₁ hg hsize hdg hW (X₁.named hnamed) (hpre vm₁ X₁.warmed) with ⟨v, B, X', hpost, hsteps⟩ | ⟨q, B, X', hpost, hsteps⟩
  · exact Or.inl ⟨v, vm₁, B, X₁.warmed, X', hpost, fun target h => hstep₁ _ fun acts => by rw [doInvoke_state]; exact hsteps.trans h⟩
  · exact Or.inr ⟨q, vm₁, B, X₁.warmed, X', hpost, hstep₁ _ fun acts => by rw [doInvoke_state]; exact hsteps⟩
section
variable {y : MethodName} {bytes cc : ByteArray} {maxL nL mc ms n index : Nat} {ret : Option FieldType} {ws : List Cond} {rm : Room} {Pc : Array Value → State → Prop} {Qc : Array Value → State → Outcome → State → Prop} {XC : String → State → State → Prop} {free : Addr → Prop} {Ts : List Cond} {own C : String} {b : Addr} {As rest : List Value} {g : JFrame}
theorem vx_runSX {hh : List (Nat × Nat × Nat × Nat)} (S : CallFix p m c cc nL s args Ts own) (hM : vx_Met l y ws rm Pc Qc XC mc ms free) (cw : vx_CSW R s args own index y bytes maxL ret hh ws rm mc ms n) (hp : PreS s H Pc As)
    (hg : g.method = m) (hn : As.length = n) (hsize : g.locals.size = nL) (hstack : g.stack = As.reverse ++ rest) (hW : 2 * g.monitorRoom + (rest.map fun v => v.category).sum ≤ 8) (hdg : decode cc g.pc = .ok (.invokestatic index, 3)) (hf : cells + mc ≤ R.cells ∧ slots + ms ≤ R.slots) :
    vx_Run p l e R s m args below meth c H locs cells slots mc ms g rest (Qc As.toArray) XC free := by
  obtain ⟨⟨hrc, hrs, hfr, hlo, hws, hcw⟩, hcode, hini, hy, hlen, hl, hstt⟩ := cw
  have hK : vx_Back l R p e below s args y 3 8 (PreOf R mc ms Pc) (PostOf Qc mc ms free) (vx_Post XC mc ms free) := vx_backW (hh := hh) (bytes := bytes) (maxL := maxL) (ret := ret) hM hp.1 hrc hrs hfr hlo hws hcw (fun a' U hW => word_at hW (Or.inl (by first | rfl | simp [Cond.onTables, Cond.keeps, Cond.steady])) hini)
  obtain ⟨hx, hb, hml, ho, -⟩ := S
  intro T hT X
  rcases vx_callSX X hx (hh := hh) (bytes := bytes) (maxL := maxL) (ret := ret) ho hl hstt hini hcode hy hK hg (hsize.trans hml.symm) (argsL := As) (rest := rest) (fun sig h => hn.trans (hlen sig h)) hstack hW (by rw [hb]; exact hdg)
    (fun vm₁ hW₁ => ⟨hf.1, hf.2, hp.2 (T.setVm vm₁) hT hW₁⟩) with ⟨v, vm₁, ⟨U', l2, c2, s2⟩, hW₁, X', ⟨g', mk, t, L, e1, e2, hq, h1, hL, h2, h3⟩, st⟩ | ⟨q, vm₁, ⟨U', l2, c2, s2⟩, hW₁, X', ⟨g', mk, t, L, E, ce, e1, e2, hq, hce, hcv, hcl, h1, hL, h2, h3⟩, st⟩
  · dsimp only [Pt.U, Pt.locs, Pt.cells, Pt.slots] at X' e1 e2 h1 h2 h3 st
    subst h1; subst h2; subst h3
    exact Or.inl ⟨v, (T.setVm vm₁).calling g' mk As.toArray, t, U', L, hT, X', hL, e1, e2, hq, st⟩
  · dsimp only [Pt.U, Pt.locs, Pt.cells, Pt.slots] at X' e1 e2 h1 h2 h3 st hcl
    subst h1; subst h2; subst h3
    exact Or.inr ⟨q, (T.setVm vm₁).calling g' mk As.toArray, t, U', L, E, ce, hT, X', hL, e1, e2, hq, hce, hcv, vx_cls hW₁ hcl, st⟩
end
end VXH
theorem vx_ofWH {l : Launch} {y : MethodName} {ws ws' : List Cond} {rm : Room} {Pc : Array Value → State → Prop} {Qc : Array Value → State → Outcome → State → Prop} {XC : String → State → State → Prop} {mc ms : Nat} {free : Addr → Prop} {cc : ByteArray} {maxL : Nat} {ret : Option FieldType} {hh : List (Nat × Nat × Nat × Nat)}
    (hy : plainName y.cls = true) (hw : ws = Cond.codeWith y cc maxL ret hh :: ws')
    (body : ∀ p e s m args below meth c s₁, BodyLoose p l y (headSpec ws rm) cc maxL ret e s m args below meth c s₁ → c.maxLocals = maxL → Pc args s →
      W p l e (headSpec ws rm).room s m args below meth c s.heap [] 0 0 (vx_MQ below Qc XC args s mc ms free) (entryFrame m args maxL)) : vx_Met l y ws rm Pc Qc XC mc ms free := by
  refine MetFree.of_bodyS (code := cc) (maxLocals := maxL) (ret := ret) hy ?_ ?_
  · intro args s m h hn
    obtain ⟨m9, meth, c, hn9, h1, h2, h3, h4, -, h5, h6, -⟩ := Cond.codeWith_spec (atoms_spec (ws := ws) h _ (by rw [hw]; exact List.mem_cons_self))
    cases hn.symm.trans hn9
    exact ⟨meth, c, h1, h2, h3, h4, h5, h6⟩
  · intro p e s m args below meth c s₁ B hml hP _
    have hh0 : s₁.heap = s.heap := by rw [B.state]; rfl
    obtain ⟨t, a1, o, b1, b2, b3⟩ := body p e s m args below meth c s₁ B hml hP s₁ hh0 (Stand.of_body B)
    exact ⟨t, o, a1, b1, b2, b3⟩

theorem P_grow {D : va_G} {cl : List vw_C} {ws : va_W} {H H1 : Heap} (h : va_P D cl ws H) (hk : ∀ a : Nat, a < H.size → H1[a]? = H[a]?) : va_P D cl ws H1 := h.kept (fun k q hq => hk q.1 (h k q hq).lt)
abbrev vxW : List Cond := vx_at0 RX10 365 nseN ["java/lang/RuntimeException", "java/lang/Exception"]
abbrev vxG : List Cond := vxW.filter goodWord
def declL : List MethodName := [Bundle.init0 "java/lang/RuntimeException", Bundle.init0 "java/lang/Exception", Bundle.init0 Bundle.tN]
theorem vxW_or : ∀ w ∈ vxW, w ∈ vxG ∨ w = Cond.castable nseN nseN ∨ w ∈ declL.map Cond.declares := by decide +kernel
theorem de_tbl : ∀ q ∈ declL, Cond.declares q ∈ lw_tbl := by decide +kernel
theorem vxW_tbl : ∀ w ∈ vxW, w ∈ lw_tbl := by decide +kernel
def wsE : List Cond := wsL_law0 ++ vxG
theorem wsE_in : ∀ w ∈ wsE, w ∈ lw_tbl := fun w h => (List.mem_append.mp h).elim (fun q => wsL_in w q) (fun q => vxW_tbl w (List.mem_filter.mp q).1)
theorem gE : GoodIn wsE wsE := fun w h => ⟨h, (List.mem_append.mp h).elim (fun q => goodL w q) (fun q => good_of_word (List.mem_filter.mp q).2)⟩
def kZ (A : Nat → Prop) (U : State) (H : Heap) : Prop := vx_Zq Bundle.tN "UNASSIGNED_STACK" Bundle.steD A U H ∧ vx_Zq Bundle.tN "SUPPRESSED_SENTINEL" Bundle.listD A U H ∧ ∀ q ∈ declL, va_Nw (.declares q) U
def kPreX (g : Gx) (ws : va_W) (sz : Nat) (U : State) : Prop := kPre g ws sz U ∧ kZ (va_A ws sz) U U.heap
theorem kx_blind {av : List Value} {g : Gx} {wc : va_W} {sz : Nat} : FrameBlind (va_Pc av (kPreX g wc sz)) := fun a U gf mk q => by
  obtain ⟨q0, ⟨q1, qP, qK, qD, qS⟩, q2, q3, q4⟩ := q
  exact ⟨q0, ⟨q1, qP, kK.calling qK, qD, kS.calling qS⟩, vx_Zq.moved (u := U) (U := U.calling gf mk a) (Vm.Alike.refl U.vm) q2, vx_Zq.moved (u := U) (U := U.calling gf mk a) (Vm.Alike.refl U.vm) q3, fun q hq => va_Nw.same (u := U) rfl rfl (q4 q hq)⟩
theorem kZ.at {A : Nat → Prop} {s : State} {H : Heap} {locs : List Loc} (h : kZ A s s.heap) (hS : va_S A s.heap H locs) {B : Nat → Prop} (hB : ∀ q, B q → A q) : kZ B s H :=
  ⟨vx_Zq.narrow (vx_Zq.kept h.1 (fun a ha hn => hS.2.1 a ha hn)) hB, vx_Zq.narrow (vx_Zq.kept h.2.1 (fun a ha hn => hS.2.1 a ha hn)) hB, h.2.2⟩
theorem kx_pre {wc : va_W} {H : Heap} {av : List Value} {s : State} {g : Gx} {A : Nat → Prop} {locs : List Loc} (hK : kK g s) (hP : va_P g.1 vwCl wc H) (hD : va_D A wc) (hSt : kS g A s s.heap) (hS : va_S A s.heap H locs) (hF : ∀ q, va_A wc H.size q → A q) (hZ : kZ A s s.heap) : ∀ U : State, U.heap = H → s.WarmedH U.vm → va_Pc av (kPreX g wc H.size) av.toArray U :=
  fun U hU hW => ⟨rfl, (k_pre (ws := wc) (av := av) hK hP hD hSt hS hF U hU hW).2, by
    have hz := kZ.at hZ hS hF
    rw [hU]
    exact ⟨vx_Zq.moved hW.alike hz.1, vx_Zq.moved hW.alike hz.2.1, fun q hq => va_Nw.warmD hW (hz.2.2 q hq)⟩⟩
def cLedM (l : Launch) (g : Gx) (av : List Value) (ws : va_W) : Prop := ∀ sz : Nat, vx_Met l yX10_led (Cond.code yX10_led cX10_led 4 (some .int) :: wsE) (rm4 6 81 1 6) (va_Pc av (kPreX g ws sz)) (va_Qi (fun (_ : Int32) (w : va_W) => w = ws) (kPost g (va_A ws sz)) (va_A ws sz)) (vx_X (fun w : va_W => w = ws) (fun E w t => E = nseN ∧ kPost g (va_A ws sz) w t) (va_A ws sz)) 1 6 (va_A ws sz)

theorem dX10_led_k0 : ((((dD cX10_led 0 (.iconst 0) 1 ∧ dD cX10_led 1 (.istore_n 2) 1) ∧ (dD cX10_led 2 (.iconst 0) 1 ∧ dD cX10_led 3 (.istore_n 3) 1)) ∧ ((dD cX10_led 4 (.iload_n 3) 1 ∧ dD cX10_led 5 (.aload_n 0) 1) ∧ (dD cX10_led 6 (.getfield 26) 3 ∧ dD cX10_led 9 (.getfield 144) 3))) ∧ (((dD cX10_led 12 (.getfield 113) 3 ∧ dD cX10_led 15 (.if_icmp .ge 30) 3) ∧ (dD cX10_led 18 (.aload_n 0) 1 ∧ dD cX10_led 19 (.getfield 26) 3)) ∧ ((dD cX10_led 22 (.iload_n 3) 1 ∧ dD cX10_led 23 (.invokevirtual 273) 3) ∧ (dD cX10_led 26 (.ifCond .eq 13) 3 ∧ dD cX10_led 29 (.iload_n 2) 1)))) := dkA16 (by decide +kernel)
theorem dX10_led_k1 : (((dD cX10_led 30 (.iload_n 1) 1 ∧ dD cX10_led 31 (.if_icmp .ne 5) 3) ∧ (dD cX10_led 34 (.iload_n 3) 1 ∧ (dD cX10_led 35 .ireturn 1 ∧ dD cX10_led 36 (.iinc 2 1) 3))) ∧ ((dD cX10_led 39 (.iinc 3 1) 3 ∧ (dD cX10_led 42 (.goto (-38)) 3 ∧ dD cX10_led 45 (.new 363) 3)) ∧ (dD cX10_led 48 .dup 1 ∧ (dD cX10_led 49 (.invokespecial 365) 3 ∧ dD cX10_led 52 .athrow 1)))) := dkA11 (by decide +kernel)
set_option maxHeartbeats 4000000 in
set_option maxRecDepth 100000 in
theorem c_led (l : Launch) (hlt : l.stackTraces = false) (g : Gx) (h0 : Nat) (p0 : Int32) (v0h0 : Value) (v1h0 : Value) (nw : Nat) (v3h0 : Value) (v4h0 : Value) (v5h0 : Value) (v6h0 : Value) (v7h0 : Value) (v8h0 : Value) (tr : Int32) (v0nw : Value) (v1nw : Value) (zw : Nat) (v3nw : Value) (zmd : Int32) (ztr : Int32) (zwc : Nat) (zwn : Int32) (zwf : Nat → Int32) : cLedM l g [.ref h0, .int p0] [(cO10_vvrvvvvvvi h0 v0h0 v1h0 nw v3h0 v4h0 v5h0 v6h0 v7h0 v8h0 tr), (cO7_vvrvii nw v0nw v1nw zw v3nw zmd ztr), (cO8_iiri zw 6 3 zwc zwn), (cAI g zwc 18 zwf)] := by
  intro sz
  refine vx_ofW (cc := cX10_led) (maxL := 4) (ret := some .int) (by decide) rfl ?_
  intro p e s m args below meth c s₁ B hml hexc hv
  obtain ⟨rfl, ⟨hsz, hP, hK, hD0, hSt⟩, hZ⟩ := hv
  subst hsz
  have hts := atoms_spec (ws := Cond.code yX10_led cX10_led 4 (some .int) :: wsE) B.pre
  have hr : meth.sig.returnType = some .int := B.returns
  rw [lg_entry_eq]
  have X : Cx p s m meth c [Value.ref h0, .int p0].toArray cX10_led 4 RX10 (va_A [(cO10_vvrvvvvvvi h0 v0h0 v1h0 nw v3h0 v4h0 v5h0 v6h0 v7h0 v8h0 tr), (cO7_vvrvii nw v0nw v1nw zw v3nw zmd ztr), (cO8_iiri zw 6 3 zwc zwn), (cAI g zwc 18 zwf)] s.heap.size) g := ⟨B.exec, B.bytes, hml, findClass_of_methodNamed B.named, fun w h => hts w (List.mem_cons_of_mem _ (List.mem_append_left _ h)), hK, fun q h => Or.inr h, B.notSynchronized, hSt⟩
  refine (fun K : Wk p l e (rm4 6 81 1 6) s m _ below meth c _ (va_A [(cO10_vvrvvvvvvi h0 v0h0 v1h0 nw v3h0 v4h0 v5h0 v6h0 v7h0 v8h0 tr), (cO7_vvrvii nw v0nw v1nw zw v3nw zmd ztr), (cO8_iiri zw 6 3 zwc zwn), (cAI g zwc 18 zwf)] s.heap.size) g 4 0 0 [(cO10_vvrvvvvvvi h0 v0h0 v1h0 nw v3h0 v4h0 v5h0 v6h0 v7h0 v8h0 tr), (cO7_vvrvii nw v0nw v1nw zw v3nw zmd ztr), (cO8_iiri zw 6 3 zwc zwn), (cAI g zwc 18 zwf)] (lv_args 0 [.ref h0, .int p0]) 0 [] => K _ _ _ hP hD0.self va_S.rf (lv_entry [.ref h0, .int p0] (n := 4) (Nat.le_of_ble_eq_true rfl))) ?_
  generalize va_A [(cO10_vvrvvvvvvi h0 v0h0 v1h0 nw v3h0 v4h0 v5h0 v6h0 v7h0 v8h0 tr), (cO7_vvrvii nw v0nw v1nw zw v3nw zmd ztr), (cO8_iiri zw 6 3 zwc zwn), (cAI g zwc 18 zwf)] s.heap.size = A at *
  refine k_lveq [(0, .ref h0), (1, .int p0)] rfl ?_
  refine k_iconst (v := 0) X dX10_led_k0.1.1.1.1 ic_0 ?_
  refine k_istore_n [(2, .int 0), (0, .ref h0), (1, .int p0)] X dX10_led_k0.1.1.1.2 (nlt_e rfl) rfl ?_
  refine k_iconst (v := 0) X dX10_led_k0.1.1.2.1 ic_0 ?_
  refine k_istore_n [(3, .int 0), (2, .int 0), (0, .ref h0), (1, .int p0)] X dX10_led_k0.1.1.2.2 (nlt_e rfl) rfl ?_
  refine (fun hL : ∀ (nn_4 : Nat) (u_1 : Int32) (u_2 : Int32), (zwn.toInt - u_2.toInt).toNat = nn_4 → (IV u_2 0 2147483647) → Wk p l e _ s m _ below meth c _ A g _ _ _ [(cO10_vvrvvvvvvi h0 v0h0 v1h0 nw v3h0 v4h0 v5h0 v6h0 v7h0 v8h0 tr), (cO7_vvrvii nw v0nw v1nw zw v3nw zmd ztr), (cO8_iiri zw 6 3 zwc zwn), (cAI g zwc 18 zwf)] [(3, .int u_2), (2, .int u_1), (0, .ref h0), (1, .int p0)] 4 [] => hL _ 0 0 rfl (iv_w iq_0_0_0 (zle_e rfl) (zle_e rfl))) ?_
  refine fun nn_4 => Nat.strongRecOn nn_4 (fun nn_4 ih_6 => ?_)
  intro u_1 u_2 hm_5 hv_3
  refine k_iload_n X dX10_led_k0.1.2.1.1 0 rfl ?_
  refine k_aload_n X dX10_led_k0.1.2.1.2 2 rfl ?_
  refine k_get (ci := 10) X inlX10 rfl 2 (nlt_e rfl) dX10_led_k0.1.2.2.1 mw24 0 rfl rfl ?_
  refine k_get (ci := 7) X inlX7 rfl 2 (nlt_e rfl) dX10_led_k0.1.2.2.2 mw646 1 rfl rfl ?_
  refine k_get (ci := 8) X inlX8 rfl 3 (nlt_e rfl) dX10_led_k0.2.1.1.1 mw214 2 rfl rfl ?_
  refine k_ic_ge 45 X dX10_led_k0.2.1.1.2 (jp_e rfl) (fun h_7 => ?_) (fun h_7 => ?_)
  · skip
    have j_8 : zwn.toInt ≤ u_2.toInt := iv_le h_7
    intro H locs ls hP hD hS hl
    have hPw := hP.sub (ws' := [(cO10_vvrvvvvvvi h0 v0h0 v1h0 nw v3h0 v4h0 v5h0 v6h0 v7h0 v8h0 tr), (cO7_vvrvii nw v0nw v1nw zw v3nw zmd ztr), (cO8_iiri zw 6 3 zwc zwn), (cAI g zwc 18 zwf)]) [0, 1, 2, 3] rfl
    have hDw := hD.sub (ws' := [(cO10_vvrvvvvvvi h0 v0h0 v1h0 nw v3h0 v4h0 v5h0 v6h0 v7h0 v8h0 tr), (cO7_vvrvii nw v0nw v1nw zw v3nw zmd ztr), (cO8_iiri zw 6 3 zwc zwn), (cAI g zwc 18 zwf)]) [0, 1, 2, 3] (by decide) rfl
    exact vx_throw0 (own := RX10) (cls := nseN) (names := ["java/lang/RuntimeException", "java/lang/Exception"]) (ik := 363) (ic := 365) X.1 X.2.1 hlt X.2.2.2.1 (by decide +kernel) (by decide +kernel) (X.2.2.2.2.1 _ mw1556) (X.2.2.2.2.1 _ mw1557) (fun w h => (vxW_or w h).elim (fun q => hts w (List.mem_cons_of_mem _ (List.mem_append_right _ q))) (fun q => q.elim (fun q => by rw [q]; exact va_Nw.use rfl X.2.2.2.2.2.1.2.2.2.2) (fun q => by obtain ⟨y, hy, rfl⟩ := List.mem_map.mp q; exact va_Nw.use rfl (hZ.2.2 y hy)))) (by decide +kernel) hZ.1 hZ.2.1 hS (by rw [X.2.2.1]; exact hl.1) dX10_led_k1.2.1.2.2 dX10_led_k1.2.2.1 dX10_led_k1.2.2.2.1 dX10_led_k1.2.2.2.2 (fun x hx => (hexc x hx).elim) (by decide) (by decide) (by decide) (by decide) X.2.2.2.2.2.2.2.1 (fun t hal hz hk => ⟨[(cO10_vvrvvvvvvi h0 v0h0 v1h0 nw v3h0 v4h0 v5h0 v6h0 v7h0 v8h0 tr), (cO7_vvrvii nw v0nw v1nw zw v3nw zmd ztr), (cO8_iiri zw 6 3 zwc zwn), (cAI g zwc 18 zwf)], rfl, ⟨rfl, P_grow hPw hk, hDw⟩, Nat.le_trans hS.1 hz, fun q h1 h2 => (hk q (Nat.lt_of_lt_of_le h1 hS.1)).trans (hS.2.1 q h1 h2)⟩) hS.2.2 (by decide) (by decide)
  · skip
    have j_9 : u_2.toInt < zwn.toInt := iv_nle h_7
    have iv_10 : IV u_2 0 2147483646 := iv_ltL (iv_nle h_7) hv_3 (iv_any zwn) (zle_e rfl)
    have iv_11 : IV zwn 1 2147483647 := iv_ltR (iv_nle h_7) hv_3 (iv_any zwn) (zle_e rfl)
    refine k_aload_n X dX10_led_k0.2.1.2.1 2 rfl ?_
    refine k_get (ci := 10) X inlX10 rfl 2 (nlt_e rfl) dX10_led_k0.2.1.2.2 mw24 0 rfl rfl ?_
    refine k_iload_n X dX10_led_k0.2.2.1.1 0 rfl ?_
    refine k_callVI (n := 1) (As := [.int u_2]) (st := []) X [(cO7_vvrvii nw v0nw v1nw zw v3nw zmd ztr), (cO8_iiri zw 6 3 zwc zwn), (cAI g zwc 18 zwf)] [(cO10_vvrvvvvvvi h0 v0h0 v1h0 nw v3h0 v4h0 v5h0 v6h0 v7h0 v8h0 tr)] [1, 2, 3] [0] (s_isWeakX l g nw u_2 v0nw v1nw zw v3nw zmd ztr zwc zwn zwf) dX10_led_k0.2.2.1.2 mw1243 mw661 mw662 mw23 mw663 rfl 7 rfl rfl 0 _ rfl yk_yX7_isWeak_1 rfl (Nat.le_of_ble_eq_true rfl) (Nat.le_of_ble_eq_true rfl) (Nat.le_of_ble_eq_true rfl) (Nat.le_of_ble_eq_true rfl) (Nat.le_of_ble_eq_true rfl) rfl rfl (vnd_e rfl) rfl (vnd_e rfl) (dsj_e rfl) ?_
    rintro r_12 w ⟨hq_13, rfl⟩
    refine k_ws [(cO10_vvrvvvvvvi h0 v0h0 v1h0 nw v3h0 v4h0 v5h0 v6h0 v7h0 v8h0 tr), (cO7_vvrvii nw v0nw v1nw zw v3nw zmd ztr), (cO8_iiri zw 6 3 zwc zwn), (cAI g zwc 18 zwf)] rfl ?_
    refine k_if_eq 39 X dX10_led_k0.2.2.2.1 (jp_e rfl) (fun h_14 => ?_) (fun h_14 => ?_)
    · skip
      have iv_15 : IV r_12 0 0 := iv_meet (iv_any r_12) (iv_e h_14 iq_0_0_0) (zle_o rfl) (zle_o rfl)
      obtain ⟨z_16, ez_16⟩ : ∃ y : Int32, u_2 + Int32.ofInt 1 = y := ⟨_, rfl⟩
      refine k_iinc z_16 [(3, .int z_16), (2, .int u_1), (0, .ref h0), (1, .int p0)] 0 X dX10_led_k1.2.1.1 rfl ez_16 (nlt_e rfl) rfl ?_
      have i_17 : z_16.toInt = u_2.toInt + 1 := in_inc ez_16 (oin_e rfl) iv_10 (zle_e rfl) (zle_e rfl)
      have iv_18 : IV z_16 1 2147483647 := iz1 i_17 iv_10 (zle_e rfl) (zle_e rfl)
      refine k_goto 4 X dX10_led_k1.2.1.2.1 (jp_e rfl) ?_
      exact ih_6 _ (by omega) u_1 z_16 rfl (iv_w iv_18 (zle_e rfl) (zle_e rfl))
    · skip
      refine k_iload_n X dX10_led_k0.2.2.2.2 1 rfl ?_
      refine k_iload_n X dX10_led_k1.1.1.1 3 rfl ?_
      refine k_ic_ne 36 X dX10_led_k1.1.1.2 (jp_e rfl) (fun h_19 => ?_) (fun h_19 => ?_)
      · skip
        obtain ⟨z_20, ez_20⟩ : ∃ y : Int32, u_1 + Int32.ofInt 1 = y := ⟨_, rfl⟩
        refine k_iinc z_20 [(2, .int z_20), (3, .int u_2), (0, .ref h0), (1, .int p0)] 1 X dX10_led_k1.1.2.2.2 rfl ez_20 (nlt_e rfl) rfl ?_
        obtain ⟨z_21, ez_21⟩ : ∃ y : Int32, u_2 + Int32.ofInt 1 = y := ⟨_, rfl⟩
        refine k_iinc z_21 [(3, .int z_21), (2, .int z_20), (0, .ref h0), (1, .int p0)] 1 X dX10_led_k1.2.1.1 rfl ez_21 (nlt_e rfl) rfl ?_
        have i_22 : z_21.toInt = u_2.toInt + 1 := in_inc ez_21 (oin_e rfl) iv_10 (zle_e rfl) (zle_e rfl)
        have iv_23 : IV z_21 1 2147483647 := iz1 i_22 iv_10 (zle_e rfl) (zle_e rfl)
        refine k_goto 4 X dX10_led_k1.2.1.2.1 (jp_e rfl) ?_
        exact ih_6 _ (by omega) z_20 z_21 rfl (iv_w iv_23 (zle_e rfl) (zle_e rfl))
      · skip
        refine k_iload_n X dX10_led_k1.1.2.1 0 rfl ?_
        intro H locs ls hP hD hS hl
        refine vx_ret ?_
        exact k_iret X hr dX10_led_k1.1.2.2.1 (by decide) (by decide) [0, 1, 2, 3] (vnd_e rfl) rfl rfl rfl H locs ls hP hD hS hl

theorem ck_go {e : Env} {S : State} {f : JFrame} {a : Addr} {meth : Method} {code : Code} {x : ExceptionTableEntry} {d : ClassId} {cell : Cell} (hm : S.vm.method? f.method = some meth) (hc : meth.code = some code) (htab : code.exceptionTable.toList = [x]) (hx : covers x f.pc = true) (h0 : x.catchType ≠ 0)
    (hl : S.vm.ClassLinks e.platform f.method.cls x.catchType d) (hcell : S.heap[a]? = some cell) (hobj : ∀ k, cell.vm ≠ .statics k) (hk : ∃ k, S.vm.classes[cell.cls]? = some k) (hd : ∃ k, S.vm.classes[d]? = some k) (hfit : S.vm.assignable cell.cls d = true) (Q : Handler → Pre) (E : CtlPost) (b : Bool) (acts : List Action) :
    wp (findHandler f a) Q E e b acts S ↔ Q (.found x.handlerPc) b acts (S.setVm (S.vm.noted f.method.cls x.catchType (.cls d))) := by
  rw [Jvm.W.findHandler_eq hm hc, htab]
  simp only [covers] at hx
  obtain ⟨ha, ht⟩ := (resolveClass_links e.toSetting hl).op (op := VmOp.resolveClass f.method.cls x.catchType) rfl
  have hal : S.vm.Alike (S.vm.noted f.method.cls x.catchType (.cls d)) := (Vm.Alike.refl S.vm).noted _ _ _
  obtain ⟨k1, hk1⟩ := hk
  obtain ⟨k2, hk2⟩ := hd
  obtain ⟨k1', hk1', -⟩ := hal.2.2 _ _ hk1
  obtain ⟨k2', hk2', -⟩ := hal.2.2 _ _ hk2
  have hfit' : (S.vm.noted f.method.cls x.catchType (.cls d)).assignable cell.cls d = true := by rw [hal.assignable]; exact hfit
  simp [findHandler.go, hx, h0, ha, ht, hcell, hobj, hk1', hk2', hfit', VmOp.dirties, VmOp.acts]
theorem ck_step {e : Env} {S : State} {f : JFrame} {a : Addr} {r : List Frame} {pc : Nat} {vm' : Vm} (hfind : ∀ (Q : Handler → Pre) (E : CtlPost) (b : Bool) (acts : List Action), wp (findHandler f a) Q E e b acts S ↔ Q (.found pc) b acts (S.setVm vm')) :
    (stepThrowing e S a (.java f :: r)).Is ((S.setVm vm').setFrames (.java { f with pc := pc, stack := [.ref a] } :: r)) [] := by
  simp only [stepThrowing, searchFrame, vmDo]
  generalize hr : Sem.go _ e false [] S = res
  obtain ⟨as, rfl, ha⟩ := Sem.eq_ok_of hr (a := Handler.found pc) (s' := S.setVm vm') (acts' := []) (by simp [hfind _ _ _ _])
  exact ⟨rfl, ha⟩
theorem ck_frames (u : State) (vm' : Vm) (F G : List Frame) : ((u.setFrames F).setVm vm').setFrames G = (u.setVm vm').setFrames G := by
  have h1 : (u.setFrames F).setVm vm' = (u.setVm vm').setFrames F := rfl
  rw [h1, State.setFrames_setFrames]
theorem ck_catch {p : Program} {l : Launch} {e : Env} {R : Room} {s : State} {m : MethodId} {args : Array Value} {below : List Frame} {meth : Method} {c : Code} {H : Heap} {locs : List Loc} {cells slots : Nat} {Q : State → Prop} {pc : Nat} {ls : Array Slot} {rest : List Value} {own name E : String} {ce : Cell} {q : Addr} (hown : s.vm.findClass own = some m.cls) (x : ExceptionTableEntry) (htab : c.exceptionTable.toList = [x]) (hx : covers x pc = true) (h0 : x.catchType ≠ 0)
    (hlink : (Cond.classLink own x.catchType name).before args s = true) (hcast : (Cond.castable E name).before args s = true) (hcell : H[q]? = some ce) (hv : ce.vm = .none) (hcl : s.vm.findClass E = some ce.cls)
    (kk : W p l e R s m args below meth c H locs cells slots Q (F0 m x.handlerPc ls [.ref q])) : vx_W p l e R s m args below meth c H locs cells slots Q (F0 m pc ls rest) q := by
  intro T hT X
  have hpl : e.platform.magicAccessors = ({} : Platform).magicAccessors := by rw [X.admits.platform]
  obtain ⟨c3, c4, hc3, hc4, hasg⟩ := Cond.castable_spec hcast
  cases Option.some.inj (hc3.symm.trans hcl)
  obtain ⟨c5, hc5, hl5⟩ := Cond.classLink_spec hown hlink e.platform hpl
  cases Option.some.inj (hc4.symm.trans hc5)
  obtain ⟨dk, _, _, kt, hd, _, _, _, _, hkt, _, hopen⟩ := hl5.here
  obtain ⟨k0, hk0, -⟩ := Vm.findClass_spec hcl
  obtain ⟨k0', hk0', -⟩ := X.warmed.alike.2.2 _ _ hk0
  obtain ⟨kt', hkt', -⟩ := X.warmed.alike.2.2 _ _ hkt
  have hW' : s.WarmedH (T.vm.noted m.cls x.catchType (.cls c4)) := X.warmed.noted hd hopen (State.rightAt_cls hl5)
  obtain ⟨t, a1, b1⟩ := kk (T.setVm (T.vm.noted m.cls x.catchType (.cls c4))) hT (X.noted hW')
  refine ⟨t, ?_, b1⟩
  obtain ⟨hgo, hw⟩ := (show At T (F0 m pc ls rest).method c below from X.here).throwing q
  refine Steps.head hgo hw ?_
  rw [stepThread_throwing (frames_entered X.here.top _), (ck_step (S := (T.setTop (F0 m pc ls rest)).pushFrame (.throwing q)) (pc := x.handlerPc) (vm' := T.vm.noted m.cls x.catchType (.cls c4)) (fun Q E b acts => ck_go (S := (T.setTop (F0 m pc ls rest)).pushFrame (.throwing q)) (f := F0 m pc ls rest) (cell := ce) (d := c4) X.method' X.code htab hx h0 (X.warmed.classLinks hl5) (by show T.heap[q]? = some ce; rw [hT]; exact hcell) (fun k h => by rw [hv] at h; cases h) ⟨k0', hk0'⟩ ⟨kt', hkt'⟩ (by show T.vm.assignable _ _ = true; rw [X.warmed.alike.assignable]; exact hasg) Q E b acts)).1]
  obtain ⟨g₀, hg⟩ := Option.isSome_iff_exists.mp X.here.top
  obtain ⟨r, hr⟩ := State.topJava?_eq_some.mp hg
  have hr' : (T.setVm (T.vm.noted m.cls x.catchType (.cls c4))).frames = .java g₀ :: r := hr
  rw [State.setTop_of_frames _ hr'] at a1
  rw [hr, List.tail_cons, State.pushFrame, ck_frames, State.setTop_of_frames _ hr, ck_frames]
  exact a1

def cLawLed (l : Launch) (g : Gx) (av : List Value) (ws : va_W) (P : va_W → Prop) : Prop := ∀ sz : Nat, vx_Met l yL_led (Cond.codeWith yL_led cL_led 4 (some .int) [(0, 9, 12, 13)] :: wsE) (rm4 7 104 1 6) (va_Pc av (kPreX g ws sz)) (va_Qi (fun (_ : Int32) (w : va_W) => P w) (kPost g (va_A ws sz)) (va_A ws sz)) (vx_X (fun _ : Unit => False) (fun _ _ _ => True) (va_A ws sz)) 1 6 (va_A ws sz)

theorem dL_led_k0 : (((dD cL_led 0 (.aload_n 2) 1 ∧ (dD cL_led 1 (.iconst 0) 1 ∧ dD cL_led 2 (.aload_n 0) 1)) ∧ (dD cL_led 3 (.iload_n 1) 1 ∧ (dD cL_led 4 (.invokevirtual 7) 3 ∧ dD cL_led 7 .i2l 1))) ∧ ((dD cL_led 8 .lastore 1 ∧ (dD cL_led 9 (.goto 6) 3 ∧ dD cL_led 12 (.astore_n 3) 1)) ∧ ((dD cL_led 13 (.iconst 1) 1 ∧ dD cL_led 14 .ireturn 1) ∧ (dD cL_led 15 (.iconst 0) 1 ∧ dD cL_led 16 .ireturn 1)))) := dkA13 (by decide +kernel)
theorem gLed : GoodIn wsE (wsV RL 7 RX10 yX10_led (Cond.code yX10_led cX10_led 4 (some .int) :: wsE)) := by
  intro w hw
  have up : ∀ w, w ∈ wsL_law0 → w ∈ wsE := fun w h => List.mem_append_left _ h
  rcases List.mem_append.mp hw with q | q
  · simp only [List.mem_cons, List.not_mem_nil, or_false] at q
    rcases q with rfl | rfl | rfl | rfl
    · exact gE _ (up _ mw1552)
    · exact gE _ (up _ mw1553)
    · exact gE _ (up _ mw1554)
    · exact gE _ (up _ mw2)
  · rcases List.mem_cons.mp q with rfl | q
    · exact gE _ (up _ mw1555)
    · exact gE w q
set_option maxHeartbeats 4000000 in
set_option maxRecDepth 100000 in
theorem c_Lled (l : Launch) (hlt : l.stackTraces = false) (g : Gx) (lo : Nat) (fo : Nat → Int64) (h0 : Nat) (p0 : Int32) (v0h0 : Value) (v1h0 : Value) (nw : Nat) (v3h0 : Value) (v4h0 : Value) (v5h0 : Value) (v6h0 : Value) (v7h0 : Value) (v8h0 : Value) (tr : Int32) (v0nw : Value) (v1nw : Value) (zw : Nat) (v3nw : Value) (zmd : Int32) (ztr : Int32) (zwc : Nat) (zwn : Int32) (zwf : Nat → Int32) : cLawLed l g [.ref h0, .int p0, .ref lo] [(cO10_vvrvvvvvvi h0 v0h0 v1h0 nw v3h0 v4h0 v5h0 v6h0 v7h0 v8h0 tr), (cO7_vvrvii nw v0nw v1nw zw v3nw zmd ztr), (cO8_iiri zw 6 3 zwc zwn), (cAI g zwc 18 zwf), (cAJ g lo 1 fo)] (fun w => ∃ fo2, w = [(cO10_vvrvvvvvvi h0 v0h0 v1h0 nw v3h0 v4h0 v5h0 v6h0 v7h0 v8h0 tr), (cO7_vvrvii nw v0nw v1nw zw v3nw zmd ztr), (cO8_iiri zw 6 3 zwc zwn), (cAI g zwc 18 zwf), (cAJ g lo 1 fo2)]) := by
  intro sz
  refine vx_ofWH (cc := cL_led) (maxL := 4) (ret := some .int) (hh := [(0, 9, 12, 13)]) (by decide) rfl ?_
  intro p e s m args below meth c s₁ B hml hv
  obtain ⟨rfl, ⟨hsz, hP, hK, hD0, hSt⟩, hZ⟩ := hv
  subst hsz
  have hts := atoms_spec (ws := Cond.codeWith yL_led cL_led 4 (some .int) [(0, 9, 12, 13)] :: wsE) B.pre
  have htsE : ∀ w ∈ wsE, w.before [Value.ref h0, .int p0, .ref lo].toArray s = true := fun w h => hts w (List.mem_cons_of_mem _ h)
  have htab : c.exceptionTable.toList = [⟨0, 9, 12, 13⟩] := vx_table (x := yL_led) B (hts _ List.mem_cons_self)
  have hr : meth.sig.returnType = some .int := B.returns
  rw [lg_entry_eq]
  have X : Cx p s m meth c [Value.ref h0, .int p0, .ref lo].toArray cL_led 4 RL (va_A [(cO10_vvrvvvvvvi h0 v0h0 v1h0 nw v3h0 v4h0 v5h0 v6h0 v7h0 v8h0 tr), (cO7_vvrvii nw v0nw v1nw zw v3nw zmd ztr), (cO8_iiri zw 6 3 zwc zwn), (cAI g zwc 18 zwf), (cAJ g lo 1 fo)] s.heap.size) g := ⟨B.exec, B.bytes, hml, findClass_of_methodNamed B.named, fun w h => htsE w (List.mem_append_left _ h), hK, fun q h => Or.inr h, B.notSynchronized, hSt⟩
  refine (fun K : Wk p l e (rm4 7 104 1 6) s m _ below meth c _ (va_A [(cO10_vvrvvvvvvi h0 v0h0 v1h0 nw v3h0 v4h0 v5h0 v6h0 v7h0 v8h0 tr), (cO7_vvrvii nw v0nw v1nw zw v3nw zmd ztr), (cO8_iiri zw 6 3 zwc zwn), (cAI g zwc 18 zwf), (cAJ g lo 1 fo)] s.heap.size) g 4 0 0 [(cO10_vvrvvvvvvi h0 v0h0 v1h0 nw v3h0 v4h0 v5h0 v6h0 v7h0 v8h0 tr), (cO7_vvrvii nw v0nw v1nw zw v3nw zmd ztr), (cO8_iiri zw 6 3 zwc zwn), (cAI g zwc 18 zwf), (cAJ g lo 1 fo)] (lv_args 0 [.ref h0, .int p0, .ref lo]) 0 [] => K _ _ _ hP hD0.self va_S.rf (lv_entry [.ref h0, .int p0, .ref lo] (n := 4) (Nat.le_of_ble_eq_true rfl))) ?_
  generalize va_A [(cO10_vvrvvvvvvi h0 v0h0 v1h0 nw v3h0 v4h0 v5h0 v6h0 v7h0 v8h0 tr), (cO7_vvrvii nw v0nw v1nw zw v3nw zmd ztr), (cO8_iiri zw 6 3 zwc zwn), (cAI g zwc 18 zwf), (cAJ g lo 1 fo)] s.heap.size = A at *
  refine k_lveq [(0, .ref h0), (1, .int p0), (2, .ref lo)] rfl ?_
  refine k_aload_n X dL_led_k0.1.1.1 2 rfl ?_
  refine k_iconst (v := 0) X dL_led_k0.1.1.2.1 ic_0 ?_
  refine k_aload_n X dL_led_k0.1.1.2.2 0 rfl ?_
  refine k_iload_n X dL_led_k0.1.2.1 1 rfl ?_
  intro H locs ls hP hD hS hl
  have hPc := hP.sub (ws' := [(cO10_vvrvvvvvvi h0 v0h0 v1h0 nw v3h0 v4h0 v5h0 v6h0 v7h0 v8h0 tr), (cO7_vvrvii nw v0nw v1nw zw v3nw zmd ztr), (cO8_iiri zw 6 3 zwc zwn), (cAI g zwc 18 zwf)]) [0, 1, 2, 3] rfl
  have hDc := hD.sub (ws' := [(cO10_vvrvvvvvvi h0 v0h0 v1h0 nw v3h0 v4h0 v5h0 v6h0 v7h0 v8h0 tr), (cO7_vvrvii nw v0nw v1nw zw v3nw zmd ztr), (cO8_iiri zw 6 3 zwc zwn), (cAI g zwc 18 zwf)]) [0, 1, 2, 3] (by decide) rfl
  have hFc := va_free (wc := [(cO10_vvrvvvvvvi h0 v0h0 v1h0 nw v3h0 v4h0 v5h0 v6h0 v7h0 v8h0 tr), (cO7_vvrvii nw v0nw v1nw zw v3nw zmd ztr), (cO8_iiri zw 6 3 zwc zwn), (cAI g zwc 18 zwf)]) hD hS X.2.2.2.2.2.2.1 [0, 1, 2, 3] rfl
  refine vx_calli (vx_runV (C := RX10) (As := [.int p0]) (rest := [.int 0, .ref lo]) ⟨X.1, X.2.1, X.2.2.1, X.2.2.2.1, htsE⟩ (c_led l hlt g h0 p0 v0h0 v1h0 nw v3h0 v4h0 v5h0 v6h0 v7h0 v8h0 tr v0nw v1nw zw v3nw zmd ztr zwc zwn zwf H.size) (cwV 1 htsE gLed rfl rfl rfl (by decide +kernel) ⟨by decide, by decide⟩) ⟨kx_blind, va_recv X.2.2.2.2.2.1.1 hPc (ci := 10) (q0 := 0) rfl rfl, kx_pre X.2.2.2.2.2.1 hPc hDc X.2.2.2.2.2.2.2.2 hS hFc hZ⟩ rfl rfl hl.1 rfl (lv_room (Nat.le_of_ble_eq_true rfl)) dL_led_k0.1.2.2.1 ⟨by decide, by decide⟩) hS (fun q _ h => hFc q h) hFc (fun q _ h => hFc q h) (fun E ce q9 u t H1 locs1 ht hvm hu hE hz hk1 hS1 hcell hv9 hcl => ?_) (fun r u t H1 locs1 ht hvm hu hB hz hk1 hS1 => ?_)
  · skip
    obtain ⟨hE, hB⟩ := hE
    subst hE
    subst hu
    obtain ⟨hP1, hD1⟩ := hB
    rw [ht] at hP1
    obtain ⟨hP2, hD2⟩ := va_join (wr := [(cAJ g lo 1 fo)]) (w1 := [(cO10_vvrvvvvvvi h0 v0h0 v1h0 nw v3h0 v4h0 v5h0 v6h0 v7h0 v8h0 tr), (cO7_vvrvii nw v0nw v1nw zw v3nw zmd ztr), (cO8_iiri zw 6 3 zwc zwn), (cAI g zwc 18 zwf)]) hP hD [0, 1, 2, 3] [4] rfl rfl (by decide) (by decide) hk1 hFc hP1 hD1
    refine ck_catch (own := RL) (name := nseN) X.2.2.2.1 ⟨0, 9, 12, 13⟩ htab (by decide) (by decide) (X.2.2.2.2.1 _ mw1551) (va_Nw.use rfl X.2.2.2.2.2.1.2.2.2.2) hcell hv9 hcl ?_
    refine (fun K : Wk p l e (rm4 7 104 1 6) s m _ below meth c _ A g 4 1 6 [(cAJ g lo 1 fo), (cO10_vvrvvvvvvi h0 v0h0 v1h0 nw v3h0 v4h0 v5h0 v6h0 v7h0 v8h0 tr), (cO7_vvrvii nw v0nw v1nw zw v3nw zmd ztr), (cO8_iiri zw 6 3 zwc zwn), (cAI g zwc 18 zwf)] [(0, .ref h0), (1, .int p0), (2, .ref lo)] 12 [.ref q9] => K H1 locs1 ls hP2 hD2 hS1 hl) ?_
    refine k_astore_n [(3, .ref q9), (0, .ref h0), (1, .int p0), (2, .ref lo)] X dL_led_k0.2.1.2.2 (nlt_e rfl) rfl ?_
    refine k_iconst (v := 1) X dL_led_k0.2.2.1.1 ic_1 ?_
    intro H locs ls hP hD hS hl
    refine vx_ret ?_
    exact k_iret X hr dL_led_k0.2.2.1.2 (by decide) (by decide) [1, 2, 3, 4, 0] (vnd_e rfl) rfl rfl ⟨fo, rfl⟩ H locs ls hP hD hS hl
  · skip
    subst hu
    obtain ⟨hP1, hD1⟩ := hB
    rw [ht] at hP1
    obtain ⟨hP2, hD2⟩ := va_join (wr := [(cAJ g lo 1 fo)]) (w1 := [(cO10_vvrvvvvvvi h0 v0h0 v1h0 nw v3h0 v4h0 v5h0 v6h0 v7h0 v8h0 tr), (cO7_vvrvii nw v0nw v1nw zw v3nw zmd ztr), (cO8_iiri zw 6 3 zwc zwn), (cAI g zwc 18 zwf)]) hP hD [0, 1, 2, 3] [4] rfl rfl (by decide) (by decide) hk1 hFc hP1 hD1
    refine (fun K : Wk p l e (rm4 7 104 1 6) s m _ below meth c _ A g 4 1 6 [(cAJ g lo 1 fo), (cO10_vvrvvvvvvi h0 v0h0 v1h0 nw v3h0 v4h0 v5h0 v6h0 v7h0 v8h0 tr), (cO7_vvrvii nw v0nw v1nw zw v3nw zmd ztr), (cO8_iiri zw 6 3 zwc zwn), (cAI g zwc 18 zwf)] [(0, .ref h0), (1, .int p0), (2, .ref lo)] 7 [.int r, .int 0, .ref lo] => K H1 locs1 ls hP2 hD2 hS1 hl) ?_
    refine k_i2l X dL_led_k0.1.2.2.2 ?_
    refine k_nmL (fun y_1 ey_1 => ?_)
    refine k_last [(cAJ g lo 1 (vp_updL fo (0 : Int32).toNatClampNeg y_1)), (cO10_vvrvvvvvvi h0 v0h0 v1h0 nw v3h0 v4h0 v5h0 v6h0 v7h0 v8h0 tr), (cO7_vvrvii nw v0nw v1nw zw v3nw zmd ztr), (cO8_iiri zw 6 3 zwc zwn), (cAI g zwc 18 zwf)] X dL_led_k0.2.1.1 0 rfl (by unfold vp_in; decide) rfl ?_
    refine (fun hg : ∀ fl_2 : Nat → Int64, Wk p l e _ s m _ below meth c _ A g _ _ _ [(cAJ g lo 1 fl_2), (cO10_vvrvvvvvvi h0 v0h0 v1h0 nw v3h0 v4h0 v5h0 v6h0 v7h0 v8h0 tr), (cO7_vvrvii nw v0nw v1nw zw v3nw zmd ztr), (cO8_iiri zw 6 3 zwc zwn), (cAI g zwc 18 zwf)] _ _ _ => hg _) (fun fl_2 => ?_)
    refine k_goto 15 X dL_led_k0.2.1.2.1 (jp_e rfl) ?_
    refine k_iconst (v := 0) X dL_led_k0.2.2.2.1 ic_0 ?_
    intro H locs ls hP hD hS hl
    refine vx_ret ?_
    exact k_iret X hr dL_led_k0.2.2.2.2 (by decide) (by decide) [1, 2, 3, 4, 0] (vnd_e rfl) rfl rfl ⟨fl_2, rfl⟩ H locs ls hP hD hS hl

theorem gLawLed : GoodIn wsE (va_wsS RL 238 yL_led (Cond.codeWith yL_led cL_led 4 (some .int) [(0, 9, 12, 13)] :: wsE)) := by
  intro w hw
  have up : ∀ w, w ∈ wsL_law0 → w ∈ wsE := fun w h => List.mem_append_left _ h
  rcases List.mem_append.mp hw with q | q
  · simp only [List.mem_cons, List.not_mem_nil, or_false] at q
    rcases q with rfl | rfl | rfl
    · exact gE _ (up _ mw1547)
    · exact gE _ (up _ mw1548)
    · exact gE _ (up _ mw1549)
  · rcases List.mem_cons.mp q with rfl | q
    · exact gE _ (up _ mw1550)
    · exact gE w q
theorem k_pop2 {p : Program} {l : Launch} {e : Env} {R : Room} {s : State} {m : MethodId} {args : Array Value} {below : List Frame} {meth : Method} {c : Code} {Q : State → Prop} {A : Nat → Prop} {g : Gx} {cc : ByteArray} {nL n1 n2 pc : Nat} {ws : va_W} {lv : List (Nat × Value)} {st : List Value} {own : String} {v : Value} (X : Cx p s m meth c args cc nL own A g) (hd : decode cc pc = .ok (.pop2, 1)) (hc : v.category = 2) (kk : Wk p l e R s m args below meth c Q A g nL n1 n2 ws lv (pc + 1) st) : Wk p l e R s m args below meth c Q A g nL n1 n2 ws lv pc (v :: st) := fun H locs ls hP hD hS hl => lv_pop2_2 X.1 X.2.1 hd hc (kk H locs ls hP hD hS hl)
theorem k_led {p : Program} {l : Launch} {e : Env} {R : Room} {s : State} {m : MethodId} {args : Array Value} {below : List Frame} {meth : Method} {c : Code} {Q : State → Prop} {A : Nat → Prop} {g : Gx} {cc : ByteArray} {nL n1 n2 pc : Nat} {ws : va_W} {lv : List (Nat × Value)} {st : List Value} {i h0 lo : Nat} {p0 : Int32} {P : va_W → Prop} (hZ : kZ A s s.heap) (htsE : ∀ w ∈ wsE, w.before args s = true) (X : Cx p s m meth c args cc nL RL A g) (wc wr : va_W) (hpm : ws.Perm (wr ++ wc)) (hM : cLawLed l g [.ref h0, .int p0, .ref lo] wc P) (hd : decode cc pc = .ok (.invokestatic i, 3)) (hG : GoodIn wsE (va_wsS RL i yL_led (Cond.codeWith yL_led cL_led 4 (some .int) [(0, 9, 12, 13)] :: wsE))) (hf : 7 + 1 ≤ R.frames) (hlo : 8 + (4 + 11) + 104 ≤ R.locals) (hst : (st.map fun v => v.category).sum ≤ 8) (h1 : n1 + 1 ≤ R.cells) (h2 : n2 + 6 ≤ R.slots)
    (kk : ∀ (r : Int32) (w : va_W), P w → Wk p l e R s m args below meth c Q A g nL (n1 + 1) (n2 + 6) (wr ++ w) lv (pc + 3) (.int r :: st)) : Wk p l e R s m args below meth c Q A g nL n1 n2 ws lv pc (.ref lo :: .int p0 :: .ref h0 :: st) := by
  refine k_perm _ hpm ?_
  intro H locs ls hP hD hS hl
  have hC2 := rg_map2 wr wc
  have hPc := hP.sub (ws' := wc) (List.range' wr.length wc.length) (fm_map hC2)
  have hDc := hD.sub (ws' := wc) (List.range' wr.length wc.length) (nd_of List.nodup_range') hC2
  have hFc := va_free (wc := wc) hD hS X.2.2.2.2.2.2.1 (List.range' wr.length wc.length) hC2
  refine vx_calli (vx_runSX (As := [.ref h0, .int p0, .ref lo]) (rest := st) (hh := [(0, 9, 12, 13)]) ⟨X.1, X.2.1, X.2.2.1, X.2.2.2.1, htsE⟩ (hM H.size) (vx_cwSW 3 htsE hG rfl rfl rfl (by decide +kernel) ⟨hf, hlo⟩) ⟨kx_blind, kx_pre X.2.2.2.2.2.1 hPc hDc X.2.2.2.2.2.2.2.2 hS hFc hZ⟩ rfl rfl hl.1 rfl (lv_room hst) hd ⟨h1, h2⟩) hS (fun q _ h => hFc q h) hFc (fun q _ h => hFc q h) (fun E ce q9 u t H1 locs1 ht hvm hu => hu.elim) (fun r w t H1 locs1 ht hvm hw hB hz1 hk1 hS1 => ?_)
  obtain ⟨hP1, hD1⟩ := hB
  rw [ht] at hP1
  obtain ⟨hP2, hD2⟩ := va_join (wr := wr) (w1 := w) hP hD (List.range' wr.length wc.length) (List.range wr.length) hC2 (rg_map wr wc) (nd_of List.nodup_range) (fun i h1 h2 => by rw [List.mem_range] at h1; rw [List.mem_range'_1] at h2; omega) hk1 hFc hP1 hD1
  exact kk r w hw H1 locs1 ls hP2 hD2 hS1 hl
theorem pm_L {xw cells pl mw ow wr wc : va_W} (hpm : xw.Perm (cells ++ pl)) (h1 : cells.Perm (wr ++ wc)) : (xw ++ (mw ++ ow)).Perm ((wr ++ (pl ++ mw)) ++ (wc ++ ow)) := by
  have h2 := pm_X (yw := mw) hpm h1
  rw [← List.append_assoc, ← List.append_assoc]
  exact h2.append_right ow
theorem pm_backL {wr pl mw wc ow : va_W} : ((wr ++ (pl ++ mw)) ++ (wc ++ ow)).Perm (((wr ++ wc) ++ pl) ++ (mw ++ ow)) := by
  rw [← List.append_assoc, ← List.append_assoc (as := (wr ++ wc) ++ pl)]
  exact List.Perm.append_right ow pm_backX

set_option maxHeartbeats 4000000 in
set_option maxRecDepth 100000 in
theorem lx_led {p : Program} {l : Launch} {e : Env} {R : Room} {s : State} {m : MethodId} {args : Array Value} {below : List Frame} {meth : Method} {c : Code} {Q : State → Prop} {A : Nat → Prop} {g : Gx} {cc : ByteArray} {nL n1 n2 pc : Nat} {lv : List (Nat × Value)} {st : List Value} {xtpd : Int32} {tpf : Nat → Int32} {yhnf : Nat → Int32} {yhtn : Int32} {yhtf : Nat → Int32} {yhjn : Int32} {yhjf : Nat → Int32} {yhmn : Int32} {yhmf : Nat → Int32} {yhbn : Int32} {yhbf : Nat → Int32} {yhsn : Int32} {yhsf : Nat → Int32} {yhcn : Int32} {yhcf : Nat → Int32} {zrn : Int32} {zmn : Int32} {zwn : Int32} {zpn : Int32} {zmd : Int32} {ztr : Int32} {zrf : Nat → Int32} {zmf : Nat → Int32} {zwf : Nat → Int32} {zpf : Nat → Int32} {kac : Int32} {knx : Int32} {kim : Int32} {cf : Nat → SC} {h0 lo : Nat} {wX wM : va_W} {fo : Nat → Int64} (a1 : Int32) (hlt : l.stackTraces = false) (hZ : kZ A s s.heap) (htsE : ∀ w ∈ wsE, w.before args s = true) (X : Cx p s m meth c args cc nL RL A g) (hx : XW g h0 xtpd tpf yhnf yhtn yhtf yhjn yhjf yhmn yhmf yhbn yhbf yhsn yhsf yhcn yhcf zrn zmn zwn zpn zmd ztr zrf zmf zwf zpf kac knx kim cf wX) (hd : decode cc pc = .ok (.invokestatic 238, 3)) (hf : 7 + 1 ≤ R.frames) (hlo : 8 + (4 + 11) + 104 ≤ R.locals) (hst : (st.map fun v => v.category).sum ≤ 8) (h1 : n1 + 1 ≤ R.cells) (h2 : n2 + 6 ≤ R.slots)
    (kont : ∀ (r : Int32) (xw2 : va_W) (fo2 : Nat → Int64), XW g h0 xtpd tpf yhnf yhtn yhtf yhjn yhjf yhmn yhmf yhbn yhbf yhsn yhsf yhcn yhcf zrn zmn zwn zpn zmd ztr zrf zmf zwf zpf kac knx kim cf xw2 → Wk p l e R s m args below meth c Q A g nL (n1 + 1) (n2 + 6) (xw2 ++ (wM ++ [(cAJ g lo 1 fo2)])) lv (pc + 3) (.int r :: st)) : Wk p l e R s m args below meth c Q A g nL n1 n2 (wX ++ (wM ++ [(cAJ g lo 1 fo)])) lv pc (.ref lo :: .int a1 :: .ref h0 :: st) := by
  obtain ⟨xN, xI0, xI1, xJ1, xG2, xI3, xF3, xI4, xF4, xI5, xF5, xK, xI10, xF10, xI11, xF11, xI12, xF12, xI13, xF13, xG13, xJ14, as, pl, h_xen, h_xsta, h_xpo, h_xtpd, h_kac, h_knx, h_kim, hms, hPL, hkaf, hkgf, hlen, hpm⟩ := hx
  refine k_led hZ htsE X _ _ (pm_L hpm (pk_pick (false :: true :: true :: true :: true :: true :: true :: true :: true :: true :: true :: true :: true :: true :: true :: true :: true :: true :: true :: true :: true :: true :: true :: true :: true :: true :: true :: true :: true :: true :: true :: true :: true :: true :: true :: true :: true :: true :: true :: true :: true :: true :: true :: true :: true :: true :: true :: true :: true :: true :: true :: true :: true :: true :: false :: true :: true :: true :: true :: false :: false :: []) [(cO10_rrrrrrrrri h0 (xN 0) (xN 1) (xN 2) (xN 3) (xN 4) (xN 5) (xN 6) (xN 7) (xN 8) (xI0 0)), ((xN 2), .inr (7, [.ref (xN 60), .ref (xN 61), .ref (xN 62), .ref (xN 63), .int zmd, .int ztr])), ((xN 62), .inr (8, [.int 6, .int 3, .ref (xN 66), .int zwn])), ((xN 66), .inl (g.2.2.1, 18, .inl zwf))] rfl (List.Perm.refl _))) (c_Lled l hlt g lo fo h0 a1 (.ref (xN 0)) (.ref (xN 1)) (xN 2) (.ref (xN 3)) (.ref (xN 4)) (.ref (xN 5)) (.ref (xN 6)) (.ref (xN 7)) (.ref (xN 8)) (xI0 0) (.ref (xN 60)) (.ref (xN 61)) (xN 62) (.ref (xN 63)) zmd ztr (xN 66) zwn zwf) hd gLawLed hf hlo hst h1 h2 ?_
  rintro r w ⟨fo2, rfl⟩
  refine k_perm _ (pm_backL (wc := [(cO10_rrrrrrrrri h0 (xN 0) (xN 1) (xN 2) (xN 3) (xN 4) (xN 5) (xN 6) (xN 7) (xN 8) (xI0 0)), ((xN 2), .inr (7, [.ref (xN 60), .ref (xN 61), .ref (xN 62), .ref (xN 63), .int zmd, .int ztr])), ((xN 62), .inr (8, [.int 6, .int 3, .ref (xN 66), .int zwn])), ((xN 66), .inl (g.2.2.1, 18, .inl zwf))]) (ow := [(cAJ g lo 1 fo2)])) ?_
  exact kont r _ fo2 ⟨xN, xI0, xI1, xJ1, xG2, xI3, xF3, xI4, xF4, xI5, xF5, xK, xI10, xF10, xI11, xF11, xI12, xF12, xI13, xF13, xG13, xJ14, as, pl, h_xen, h_xsta, h_xpo, h_xtpd, h_kac, h_knx, h_kim, hms, hPL, hkaf, hkgf, hlen, (pk_backR (false :: true :: true :: true :: true :: true :: true :: true :: true :: true :: true :: true :: true :: true :: true :: true :: true :: true :: true :: true :: true :: true :: true :: true :: true :: true :: true :: true :: true :: true :: true :: true :: true :: true :: true :: true :: true :: true :: true :: true :: true :: true :: true :: true :: true :: true :: true :: true :: true :: true :: true :: true :: true :: true :: false :: true :: true :: true :: true :: false :: false :: []) [(cO10_rrrrrrrrri h0 (xN 0) (xN 1) (xN 2) (xN 3) (xN 4) (xN 5) (xN 6) (xN 7) (xN 8) (xI0 0)), ((xN 2), .inr (7, [.ref (xN 60), .ref (xN 61), .ref (xN 62), .ref (xN 63), .int zmd, .int ztr])), ((xN 62), .inr (8, [.int 6, .int 3, .ref (xN 66), .int zwn])), ((xN 66), .inl (g.2.2.1, 18, .inl zwf))] rfl rfl (List.Perm.refl _))⟩

theorem dL_law_k0 : ((((dD cL_law 276 (.aload_n 1) 1 ∧ dD cL_law 277 (.aload_n 0) 1) ∧ (dD cL_law 278 (.iload 4) 2 ∧ dD cL_law 280 (.iconst 1) 1)) ∧ ((dD cL_law 281 .iadd 1 ∧ dD cL_law 282 .iaload 1) ∧ (dD cL_law 283 (.aload_n 0) 1 ∧ dD cL_law 284 (.iload 4) 2))) ∧ (((dD cL_law 286 (.iconst 2) 1 ∧ dD cL_law 287 .iadd 1) ∧ (dD cL_law 288 .iaload 1 ∧ dD cL_law 289 (.aload_n 0) 1)) ∧ ((dD cL_law 290 (.iload 4) 2 ∧ dD cL_law 292 (.iconst 3) 1) ∧ (dD cL_law 293 .iadd 1 ∧ dD cL_law 294 .iaload 1)))) := dkA16 (by decide +kernel)
theorem dL_law_k1 : ((((dD cL_law 295 (.aload_n 0) 1 ∧ dD cL_law 296 (.iload 4) 2) ∧ (dD cL_law 298 (.iconst 4) 1 ∧ dD cL_law 299 .iadd 1)) ∧ ((dD cL_law 300 .iaload 1 ∧ dD cL_law 301 (.aload_n 0) 1) ∧ (dD cL_law 302 (.iload 4) 2 ∧ dD cL_law 304 (.iconst 5) 1))) ∧ (((dD cL_law 305 .iadd 1 ∧ dD cL_law 306 .iaload 1) ∧ (dD cL_law 307 (.invokevirtual 19) 3 ∧ dD cL_law 310 .pop 1)) ∧ ((dD cL_law 311 (.aload_n 2) 1 ∧ dD cL_law 312 (.aload_n 0) 1) ∧ (dD cL_law 313 (.iload 4) 2 ∧ dD cL_law 315 (.iconst 1) 1)))) := dkA16 (by decide +kernel)
theorem dL_law_k2 : ((((dD cL_law 316 .iadd 1 ∧ dD cL_law 317 .iaload 1) ∧ (dD cL_law 318 (.aload_n 0) 1 ∧ dD cL_law 319 (.iload 4) 2)) ∧ ((dD cL_law 321 (.iconst 2) 1 ∧ dD cL_law 322 .iadd 1) ∧ (dD cL_law 323 .iaload 1 ∧ dD cL_law 324 (.aload_n 0) 1))) ∧ (((dD cL_law 325 (.iload 4) 2 ∧ dD cL_law 327 (.iconst 3) 1) ∧ (dD cL_law 328 .iadd 1 ∧ dD cL_law 329 .iaload 1)) ∧ ((dD cL_law 330 (.aload_n 0) 1 ∧ dD cL_law 331 (.iload 4) 2) ∧ (dD cL_law 333 (.iconst 4) 1 ∧ dD cL_law 334 .iadd 1)))) := dkA16 (by decide +kernel)
theorem dL_law_k3 : (((dD cL_law 335 .iaload 1 ∧ dD cL_law 336 (.aload_n 0) 1) ∧ (dD cL_law 337 (.iload 4) 2 ∧ dD cL_law 339 (.iconst 5) 1)) ∧ ((dD cL_law 340 .iadd 1 ∧ dD cL_law 341 .iaload 1) ∧ (dD cL_law 342 (.invokevirtual 23) 3 ∧ (dD cL_law 345 .pop 1 ∧ dD cL_law 346 (.goto 1716) 3)))) := dkA9 (by decide +kernel)
set_option maxHeartbeats 4000000 in
set_option maxRecDepth 100000 in
theorem law_c0 {p : Program} {l : Launch} {e : Env} {s : State} {m : MethodId} {below : List Frame} {meth : Method} {c : Code} {A : Nat → Prop} {g : Gx} {b L : Nat} {xs : Nat → Int32} {h0 mo lo n1 n2 : Nat} {fo : Nat → Int64} {u4 : Int32} {xtpd : Int32} {tpf : Nat → Int32} {yhnf : Nat → Int32} {yhtn : Int32} {yhtf : Nat → Int32} {yhjn : Int32} {yhjf : Nat → Int32} {yhmn : Int32} {yhmf : Nat → Int32} {yhbn : Int32} {yhbf : Nat → Int32} {yhsn : Int32} {yhsf : Nat → Int32} {yhcn : Int32} {yhcf : Nat → Int32} {zrn : Int32} {zmn : Int32} {zwn : Int32} {zpn : Int32} {zmd : Int32} {ztr : Int32} {zrf : Nat → Int32} {zmf : Nat → Int32} {zwf : Nat → Int32} {zpf : Nat → Int32} {kac : Int32} {knx : Int32} {kim : Int32} {cf : Nat → SC} {m_taped : Int32} {d_tape : Nat → Int32} {d_r : Nat → Int32} {d_st : Nat → Int32} {d_undone : Nat → Int32} {d_kept : Nat → Int32} {m_undos : Int32} {m_images : Int32} {m_hasHouse : Int32} {xw mw : va_W} (X : Cx p s m meth c #[Value.ref b] cL_law 7 RL A g) (hX : va_X b L xs s s.heap) (hbl : b < s.heap.size) (hbA : ¬ A b) (hi : 0 ≤ u4.toInt ∧ u4.toInt + 6 ≤ (L : Int)) (hL : L ≤ 3072) (h1 : n1 ≤ 601023) (h2 : n2 ≤ 7293028) (hlt : l.stackTraces = false) (hZ : kZ A s s.heap) (htsE : ∀ w ∈ wsE, w.before #[Value.ref b] s = true) (hx : XW g h0 xtpd tpf yhnf yhtn yhtf yhjn yhjf yhmn yhmf yhbn yhbf yhsn yhsf yhcn yhcf zrn zmn zwn zpn zmd ztr zrf zmf zwf zpf kac knx kim cf xw) (hm : MW g mo m_taped d_tape d_r d_st d_undone d_kept m_undos m_images m_hasHouse mw) (hR : LR xtpd tpf yhnf yhtn yhtf yhjn yhjf yhmn yhmf yhbn yhbf yhsn yhsf yhcn yhcf zrn zmn zwn zpn zmd ztr zrf zmf zwf zpf kac knx kim cf m_taped d_tape d_r d_st d_undone d_kept m_undos m_images m_hasHouse) (kk : ∀ (xtpd_2 : Int32) (tpf_2 : Nat → Int32) (yhnf_2 : Nat → Int32) (yhtn_2 : Int32) (yhtf_2 : Nat → Int32) (yhjn_2 : Int32) (yhjf_2 : Nat → Int32) (yhmn_2 : Int32) (yhmf_2 : Nat → Int32) (yhbn_2 : Int32) (yhbf_2 : Nat → Int32) (yhsn_2 : Int32) (yhsf_2 : Nat → Int32) (yhcn_2 : Int32) (yhcf_2 : Nat → Int32) (zrn_2 : Int32) (zmn_2 : Int32) (zwn_2 : Int32) (zpn_2 : Int32) (zmd_2 : Int32) (ztr_2 : Int32) (zrf_2 : Nat → Int32) (zmf_2 : Nat → Int32) (zwf_2 : Nat → Int32) (zpf_2 : Nat → Int32) (kac_2 : Int32) (knx_2 : Int32) (kim_2 : Int32) (cf_2 : Nat → SC) (m_taped_2 : Int32) (d_tape_2 : Nat → Int32) (d_r_2 : Nat → Int32) (d_st_2 : Nat → Int32) (d_undone_2 : Nat → Int32) (d_kept_2 : Nat → Int32) (m_undos_2 : Int32) (m_images_2 : Int32) (m_hasHouse_2 : Int32) (xw2 mw2 : va_W), XW g h0 xtpd_2 tpf_2 yhnf_2 yhtn_2 yhtf_2 yhjn_2 yhjf_2 yhmn_2 yhmf_2 yhbn_2 yhbf_2 yhsn_2 yhsf_2 yhcn_2 yhcf_2 zrn_2 zmn_2 zwn_2 zpn_2 zmd_2 ztr_2 zrf_2 zmf_2 zwf_2 zpf_2 kac_2 knx_2 kim_2 cf_2 xw2 → MW g mo m_taped_2 d_tape_2 d_r_2 d_st_2 d_undone_2 d_kept_2 m_undos_2 m_images_2 m_hasHouse_2 mw2 → LR xtpd_2 tpf_2 yhnf_2 yhtn_2 yhtf_2 yhjn_2 yhjf_2 yhmn_2 yhmf_2 yhbn_2 yhbf_2 yhsn_2 yhsf_2 yhcn_2 yhcf_2 zrn_2 zmn_2 zwn_2 zpn_2 zmd_2 ztr_2 zrf_2 zmf_2 zwf_2 zpf_2 kac_2 knx_2 kim_2 cf_2 m_taped_2 d_tape_2 d_r_2 d_st_2 d_undone_2 d_kept_2 m_undos_2 m_images_2 m_hasHouse_2 → Wk p l e room_1 s m #[Value.ref b] below meth c (lw_Z below #[Value.ref b] s) A g 7 n1 n2 (xw2 ++ (mw2 ++ [(cAJ g lo 1 fo)])) [(4, .int u4), (3, .ref lo), (2, .ref mo), (1, .ref h0), (0, .ref b)] 2062 []) : Wk p l e room_1 s m #[Value.ref b] below meth c (lw_Z below #[Value.ref b] s) A g 7 n1 n2 (xw ++ (mw ++ [(cAJ g lo 1 fo)])) [(4, .int u4), (3, .ref lo), (2, .ref mo), (1, .ref h0), (0, .ref b)] 276 [] := by
  have hiv : IV u4 0 3066 := ⟨hi.1, by omega⟩
  refine k_aload_n X dL_law_k0.1.1.1.1 3 rfl ?_
  refine k_aload_n X dL_law_k0.1.1.1.2 4 rfl ?_
  refine k_iload X dL_law_k0.1.1.2.1 0 rfl ?_
  refine k_iconst (v := 1) X dL_law_k0.1.1.2.2 ic_1 ?_
  refine k_iadd X dL_law_k0.1.2.1.1 ?_
  refine k_nm (fun z_1 ez_1 => ?_)
  have i_2 : z_1.toInt = u4.toInt + 1 := in_add ez_1 hiv iq_1_1_1 (zle_e rfl) (zle_e rfl)
  have iv_3 : IV z_1 1 3067 := by have := hiv; have := iq_1_1_1; rw [IV, i_2]; omega
  refine k_sld X hX hbl hbA dL_law_k0.1.2.1.2 (by rw [vp_in_iff]; have := iv_3; omega) ?_
  refine k_nm (fun a_4 ea_4 => ?_)
  refine k_aload_n X dL_law_k0.1.2.2.1 4 rfl ?_
  refine k_iload X dL_law_k0.1.2.2.2 0 rfl ?_
  refine k_iconst (v := 2) X dL_law_k0.2.1.1.1 ic_2 ?_
  refine k_iadd X dL_law_k0.2.1.1.2 ?_
  refine k_nm (fun z_5 ez_5 => ?_)
  have i_6 : z_5.toInt = u4.toInt + 2 := in_add ez_5 hiv iq_2_2_2 (zle_e rfl) (zle_e rfl)
  have iv_7 : IV z_5 2 3068 := by have := hiv; have := iq_2_2_2; rw [IV, i_6]; omega
  refine k_sld X hX hbl hbA dL_law_k0.2.1.2.1 (by rw [vp_in_iff]; have := iv_7; omega) ?_
  refine k_nm (fun a_8 ea_8 => ?_)
  refine k_aload_n X dL_law_k0.2.1.2.2 4 rfl ?_
  refine k_iload X dL_law_k0.2.2.1.1 0 rfl ?_
  refine k_iconst (v := 3) X dL_law_k0.2.2.1.2 ic_3 ?_
  refine k_iadd X dL_law_k0.2.2.2.1 ?_
  refine k_nm (fun z_9 ez_9 => ?_)
  have i_10 : z_9.toInt = u4.toInt + 3 := in_add ez_9 hiv iq_3_3_3 (zle_e rfl) (zle_e rfl)
  have iv_11 : IV z_9 3 3069 := by have := hiv; have := iq_3_3_3; rw [IV, i_10]; omega
  refine k_sld X hX hbl hbA dL_law_k0.2.2.2.2 (by rw [vp_in_iff]; have := iv_11; omega) ?_
  refine k_nm (fun a_12 ea_12 => ?_)
  refine k_aload_n X dL_law_k1.1.1.1.1 4 rfl ?_
  refine k_iload X dL_law_k1.1.1.1.2 0 rfl ?_
  refine k_iconst (v := 4) X dL_law_k1.1.1.2.1 ic_4 ?_
  refine k_iadd X dL_law_k1.1.1.2.2 ?_
  refine k_nm (fun z_13 ez_13 => ?_)
  have i_14 : z_13.toInt = u4.toInt + 4 := in_add ez_13 hiv iq_4_4_4 (zle_e rfl) (zle_e rfl)
  have iv_15 : IV z_13 4 3070 := by have := hiv; have := iq_4_4_4; rw [IV, i_14]; omega
  refine k_sld X hX hbl hbA dL_law_k1.1.2.1.1 (by rw [vp_in_iff]; have := iv_15; omega) ?_
  refine k_nm (fun a_16 ea_16 => ?_)
  refine k_aload_n X dL_law_k1.1.2.1.2 4 rfl ?_
  refine k_iload X dL_law_k1.1.2.2.1 0 rfl ?_
  refine k_iconst (v := 5) X dL_law_k1.1.2.2.2 ic_5 ?_
  refine k_iadd X dL_law_k1.2.1.1.1 ?_
  refine k_nm (fun z_17 ez_17 => ?_)
  have i_18 : z_17.toInt = u4.toInt + 5 := in_add ez_17 hiv iq_5_5_5 (zle_e rfl) (zle_e rfl)
  have iv_19 : IV z_17 5 3071 := by have := hiv; have := iq_5_5_5; rw [IV, i_18]; omega
  refine k_sld X hX hbl hbA dL_law_k1.2.1.1.2 (by rw [vp_in_iff]; have := iv_19; omega) ?_
  refine k_nm (fun a_20 ea_20 => ?_)
  refine lx_feed (st := []) a_4 a_8 a_12 a_16 a_20 X hx dL_law_k1.2.1.2.1 mw191 (Nat.le_of_ble_eq_true rfl) (Nat.le_of_ble_eq_true rfl) (Nat.le_of_ble_eq_true rfl) (Nat.le_trans h1 (Nat.le_of_ble_eq_true rfl)) (Nat.le_trans h2 (Nat.le_of_ble_eq_true rfl)) (fun r_21 t_25 t_26 xw_22 hx_23 hr_24 => ?_)
  refine k_pop X dL_law_k1.2.1.2.2 rfl ?_
  refine k_aload_n X dL_law_k1.2.2.1.1 2 rfl ?_
  refine k_aload_n X dL_law_k1.2.2.1.2 4 rfl ?_
  refine k_iload X dL_law_k1.2.2.2.1 0 rfl ?_
  refine k_iconst (v := 1) X dL_law_k1.2.2.2.2 ic_1 ?_
  refine k_iadd X dL_law_k2.1.1.1.1 ?_
  refine k_to z_1 ez_1.symm ?_
  refine k_sld X hX hbl hbA dL_law_k2.1.1.1.2 (by rw [vp_in_iff]; have := iv_3; omega) ?_
  refine k_to a_4 ea_4.symm ?_
  refine k_aload_n X dL_law_k2.1.1.2.1 4 rfl ?_
  refine k_iload X dL_law_k2.1.1.2.2 0 rfl ?_
  refine k_iconst (v := 2) X dL_law_k2.1.2.1.1 ic_2 ?_
  refine k_iadd X dL_law_k2.1.2.1.2 ?_
  refine k_to z_5 ez_5.symm ?_
  refine k_sld X hX hbl hbA dL_law_k2.1.2.2.1 (by rw [vp_in_iff]; have := iv_7; omega) ?_
  refine k_to a_8 ea_8.symm ?_
  refine k_aload_n X dL_law_k2.1.2.2.2 4 rfl ?_
  refine k_iload X dL_law_k2.2.1.1.1 0 rfl ?_
  refine k_iconst (v := 3) X dL_law_k2.2.1.1.2 ic_3 ?_
  refine k_iadd X dL_law_k2.2.1.2.1 ?_
  refine k_to z_9 ez_9.symm ?_
  refine k_sld X hX hbl hbA dL_law_k2.2.1.2.2 (by rw [vp_in_iff]; have := iv_11; omega) ?_
  refine k_to a_12 ea_12.symm ?_
  refine k_aload_n X dL_law_k2.2.2.1.1 4 rfl ?_
  refine k_iload X dL_law_k2.2.2.1.2 0 rfl ?_
  refine k_iconst (v := 4) X dL_law_k2.2.2.2.1 ic_4 ?_
  refine k_iadd X dL_law_k2.2.2.2.2 ?_
  refine k_to z_13 ez_13.symm ?_
  refine k_sld X hX hbl hbA dL_law_k3.1.1.1 (by rw [vp_in_iff]; have := iv_15; omega) ?_
  refine k_to a_16 ea_16.symm ?_
  refine k_aload_n X dL_law_k3.1.1.2 4 rfl ?_
  refine k_iload X dL_law_k3.1.2.1 0 rfl ?_
  refine k_iconst (v := 5) X dL_law_k3.1.2.2 ic_5 ?_
  refine k_iadd X dL_law_k3.2.1.1 ?_
  refine k_to z_17 ez_17.symm ?_
  refine k_sld X hX hbl hbA dL_law_k3.2.1.2 (by rw [vp_in_iff]; have := iv_19; omega) ?_
  refine k_to a_20 ea_20.symm ?_
  refine lm_feed (st := []) a_4 a_8 a_12 a_16 a_20 X hm dL_law_k3.2.2.1 mw200 (Nat.le_of_ble_eq_true rfl) (Nat.le_of_ble_eq_true rfl) (Nat.le_of_ble_eq_true rfl) (Nat.le_trans h1 (Nat.le_of_ble_eq_true rfl)) (Nat.le_trans h2 (Nat.le_of_ble_eq_true rfl)) (fun r_27 t_31 t_32 mw_28 hm_29 hr_30 => ?_)
  refine k_pop X dL_law_k3.2.2.2.1 rfl ?_
  refine k_goto 2062 X dL_law_k3.2.2.2.2 (jp_e rfl) ?_
  exact kk _ _ _ _ _ _ _ _ _ _ _ _ _ _ _ _ _ _ _ _ _ _ _ _ _ _ _ _ _ _ _ _ _ _ _ _ _ _ _ _ hx_23 hm_29 (LR_feed hR hr_24 hr_30)

theorem dL_law_k4 : ((((dD cL_law 349 (.aload_n 1) 1 ∧ dD cL_law 350 (.aload_n 0) 1) ∧ (dD cL_law 351 (.iload 4) 2 ∧ dD cL_law 353 (.iconst 1) 1)) ∧ ((dD cL_law 354 .iadd 1 ∧ dD cL_law 355 .iaload 1) ∧ (dD cL_law 356 (.invokevirtual 24) 3 ∧ dD cL_law 359 .pop 1))) ∧ (((dD cL_law 360 (.aload_n 2) 1 ∧ dD cL_law 361 (.aload_n 0) 1) ∧ (dD cL_law 362 (.iload 4) 2 ∧ dD cL_law 364 (.iconst 1) 1)) ∧ ((dD cL_law 365 .iadd 1 ∧ dD cL_law 366 .iaload 1) ∧ (dD cL_law 367 (.invokevirtual 27) 3 ∧ dD cL_law 370 .pop 1)))) := dkA16 (by decide +kernel)
theorem dL_law_k5 : dD cL_law 371 (.goto 1691) 3 := dkA1 (by decide +kernel)
set_option maxHeartbeats 4000000 in
set_option maxRecDepth 100000 in
theorem law_c1 {p : Program} {l : Launch} {e : Env} {s : State} {m : MethodId} {below : List Frame} {meth : Method} {c : Code} {A : Nat → Prop} {g : Gx} {b L : Nat} {xs : Nat → Int32} {h0 mo lo n1 n2 : Nat} {fo : Nat → Int64} {u4 : Int32} {xtpd : Int32} {tpf : Nat → Int32} {yhnf : Nat → Int32} {yhtn : Int32} {yhtf : Nat → Int32} {yhjn : Int32} {yhjf : Nat → Int32} {yhmn : Int32} {yhmf : Nat → Int32} {yhbn : Int32} {yhbf : Nat → Int32} {yhsn : Int32} {yhsf : Nat → Int32} {yhcn : Int32} {yhcf : Nat → Int32} {zrn : Int32} {zmn : Int32} {zwn : Int32} {zpn : Int32} {zmd : Int32} {ztr : Int32} {zrf : Nat → Int32} {zmf : Nat → Int32} {zwf : Nat → Int32} {zpf : Nat → Int32} {kac : Int32} {knx : Int32} {kim : Int32} {cf : Nat → SC} {m_taped : Int32} {d_tape : Nat → Int32} {d_r : Nat → Int32} {d_st : Nat → Int32} {d_undone : Nat → Int32} {d_kept : Nat → Int32} {m_undos : Int32} {m_images : Int32} {m_hasHouse : Int32} {xw mw : va_W} (X : Cx p s m meth c #[Value.ref b] cL_law 7 RL A g) (hX : va_X b L xs s s.heap) (hbl : b < s.heap.size) (hbA : ¬ A b) (hi : 0 ≤ u4.toInt ∧ u4.toInt + 6 ≤ (L : Int)) (hL : L ≤ 3072) (h1 : n1 ≤ 601023) (h2 : n2 ≤ 7293028) (hlt : l.stackTraces = false) (hZ : kZ A s s.heap) (htsE : ∀ w ∈ wsE, w.before #[Value.ref b] s = true) (hx : XW g h0 xtpd tpf yhnf yhtn yhtf yhjn yhjf yhmn yhmf yhbn yhbf yhsn yhsf yhcn yhcf zrn zmn zwn zpn zmd ztr zrf zmf zwf zpf kac knx kim cf xw) (hm : MW g mo m_taped d_tape d_r d_st d_undone d_kept m_undos m_images m_hasHouse mw) (hR : LR xtpd tpf yhnf yhtn yhtf yhjn yhjf yhmn yhmf yhbn yhbf yhsn yhsf yhcn yhcf zrn zmn zwn zpn zmd ztr zrf zmf zwf zpf kac knx kim cf m_taped d_tape d_r d_st d_undone d_kept m_undos m_images m_hasHouse) (kk : ∀ (xtpd_2 : Int32) (tpf_2 : Nat → Int32) (yhnf_2 : Nat → Int32) (yhtn_2 : Int32) (yhtf_2 : Nat → Int32) (yhjn_2 : Int32) (yhjf_2 : Nat → Int32) (yhmn_2 : Int32) (yhmf_2 : Nat → Int32) (yhbn_2 : Int32) (yhbf_2 : Nat → Int32) (yhsn_2 : Int32) (yhsf_2 : Nat → Int32) (yhcn_2 : Int32) (yhcf_2 : Nat → Int32) (zrn_2 : Int32) (zmn_2 : Int32) (zwn_2 : Int32) (zpn_2 : Int32) (zmd_2 : Int32) (ztr_2 : Int32) (zrf_2 : Nat → Int32) (zmf_2 : Nat → Int32) (zwf_2 : Nat → Int32) (zpf_2 : Nat → Int32) (kac_2 : Int32) (knx_2 : Int32) (kim_2 : Int32) (cf_2 : Nat → SC) (m_taped_2 : Int32) (d_tape_2 : Nat → Int32) (d_r_2 : Nat → Int32) (d_st_2 : Nat → Int32) (d_undone_2 : Nat → Int32) (d_kept_2 : Nat → Int32) (m_undos_2 : Int32) (m_images_2 : Int32) (m_hasHouse_2 : Int32) (xw2 mw2 : va_W), XW g h0 xtpd_2 tpf_2 yhnf_2 yhtn_2 yhtf_2 yhjn_2 yhjf_2 yhmn_2 yhmf_2 yhbn_2 yhbf_2 yhsn_2 yhsf_2 yhcn_2 yhcf_2 zrn_2 zmn_2 zwn_2 zpn_2 zmd_2 ztr_2 zrf_2 zmf_2 zwf_2 zpf_2 kac_2 knx_2 kim_2 cf_2 xw2 → MW g mo m_taped_2 d_tape_2 d_r_2 d_st_2 d_undone_2 d_kept_2 m_undos_2 m_images_2 m_hasHouse_2 mw2 → LR xtpd_2 tpf_2 yhnf_2 yhtn_2 yhtf_2 yhjn_2 yhjf_2 yhmn_2 yhmf_2 yhbn_2 yhbf_2 yhsn_2 yhsf_2 yhcn_2 yhcf_2 zrn_2 zmn_2 zwn_2 zpn_2 zmd_2 ztr_2 zrf_2 zmf_2 zwf_2 zpf_2 kac_2 knx_2 kim_2 cf_2 m_taped_2 d_tape_2 d_r_2 d_st_2 d_undone_2 d_kept_2 m_undos_2 m_images_2 m_hasHouse_2 → Wk p l e room_1 s m #[Value.ref b] below meth c (lw_Z below #[Value.ref b] s) A g 7 n1 n2 (xw2 ++ (mw2 ++ [(cAJ g lo 1 fo)])) [(4, .int u4), (3, .ref lo), (2, .ref mo), (1, .ref h0), (0, .ref b)] 2062 []) : Wk p l e room_1 s m #[Value.ref b] below meth c (lw_Z below #[Value.ref b] s) A g 7 n1 n2 (xw ++ (mw ++ [(cAJ g lo 1 fo)])) [(4, .int u4), (3, .ref lo), (2, .ref mo), (1, .ref h0), (0, .ref b)] 349 [] := by
  have hiv : IV u4 0 3066 := ⟨hi.1, by omega⟩
  refine k_aload_n X dL_law_k4.1.1.1.1 3 rfl ?_
  refine k_aload_n X dL_law_k4.1.1.1.2 4 rfl ?_
  refine k_iload X dL_law_k4.1.1.2.1 0 rfl ?_
  refine k_iconst (v := 1) X dL_law_k4.1.1.2.2 ic_1 ?_
  refine k_iadd X dL_law_k4.1.2.1.1 ?_
  refine k_nm (fun z_1 ez_1 => ?_)
  have i_2 : z_1.toInt = u4.toInt + 1 := in_add ez_1 hiv iq_1_1_1 (zle_e rfl) (zle_e rfl)
  have iv_3 : IV z_1 1 3067 := by have := hiv; have := iq_1_1_1; rw [IV, i_2]; omega
  refine k_sld X hX hbl hbA dL_law_k4.1.2.1.2 (by rw [vp_in_iff]; have := iv_3; omega) ?_
  refine k_nm (fun a_4 ea_4 => ?_)
  refine lx_house (st := []) a_4 X hx dL_law_k4.1.2.2.1 mw206 (Nat.le_of_ble_eq_true rfl) (Nat.le_of_ble_eq_true rfl) (Nat.le_of_ble_eq_true rfl) (Nat.le_trans h1 (Nat.le_of_ble_eq_true rfl)) (Nat.le_trans h2 (Nat.le_of_ble_eq_true rfl)) (fun r_5 t_9 t_10 t_11 t_12 t_13 t_14 t_15 t_16 t_17 t_18 t_19 t_20 t_21 t_22 t_23 t_24 t_25 t_26 t_27 t_28 t_29 t_30 t_31 t_32 t_33 t_34 xw_6 hx_7 hr_8 => ?_)
  refine k_pop X dL_law_k4.1.2.2.2 rfl ?_
  refine k_aload_n X dL_law_k4.2.1.1.1 2 rfl ?_
  refine k_aload_n X dL_law_k4.2.1.1.2 4 rfl ?_
  refine k_iload X dL_law_k4.2.1.2.1 0 rfl ?_
  refine k_iconst (v := 1) X dL_law_k4.2.1.2.2 ic_1 ?_
  refine k_iadd X dL_law_k4.2.2.1.1 ?_
  refine k_to z_1 ez_1.symm ?_
  refine k_sld X hX hbl hbA dL_law_k4.2.2.1.2 (by rw [vp_in_iff]; have := iv_3; omega) ?_
  refine k_to a_4 ea_4.symm ?_
  refine lm_house (st := []) a_4 X hm dL_law_k4.2.2.2.1 mw464 (Nat.le_of_ble_eq_true rfl) (Nat.le_of_ble_eq_true rfl) (Nat.le_of_ble_eq_true rfl) (Nat.le_trans h1 (Nat.le_of_ble_eq_true rfl)) (Nat.le_trans h2 (Nat.le_of_ble_eq_true rfl)) (fun r_35 t_39 t_40 t_41 t_42 t_43 t_44 mw_36 hm_37 hr_38 => ?_)
  refine k_pop X dL_law_k4.2.2.2.2 rfl ?_
  refine k_goto 2062 X dL_law_k5 (jp_e rfl) ?_
  exact kk _ _ _ _ _ _ _ _ _ _ _ _ _ _ _ _ _ _ _ _ _ _ _ _ _ _ _ _ _ _ _ _ _ _ _ _ _ _ _ _ hx_7 hm_37 (LR_house hR hr_8 hr_38)

theorem dL_law_k6 : ((dD cL_law 374 (.aload_n 1) 1 ∧ (dD cL_law 375 (.invokevirtual 28) 3 ∧ dD cL_law 378 .pop 1)) ∧ ((dD cL_law 379 (.aload_n 2) 1 ∧ dD cL_law 380 (.invokevirtual 32) 3) ∧ (dD cL_law 383 .pop 1 ∧ dD cL_law 384 (.goto 1678) 3))) := dkA7 (by decide +kernel)
set_option maxHeartbeats 4000000 in
set_option maxRecDepth 100000 in
theorem law_c2 {p : Program} {l : Launch} {e : Env} {s : State} {m : MethodId} {below : List Frame} {meth : Method} {c : Code} {A : Nat → Prop} {g : Gx} {b L : Nat} {xs : Nat → Int32} {h0 mo lo n1 n2 : Nat} {fo : Nat → Int64} {u4 : Int32} {xtpd : Int32} {tpf : Nat → Int32} {yhnf : Nat → Int32} {yhtn : Int32} {yhtf : Nat → Int32} {yhjn : Int32} {yhjf : Nat → Int32} {yhmn : Int32} {yhmf : Nat → Int32} {yhbn : Int32} {yhbf : Nat → Int32} {yhsn : Int32} {yhsf : Nat → Int32} {yhcn : Int32} {yhcf : Nat → Int32} {zrn : Int32} {zmn : Int32} {zwn : Int32} {zpn : Int32} {zmd : Int32} {ztr : Int32} {zrf : Nat → Int32} {zmf : Nat → Int32} {zwf : Nat → Int32} {zpf : Nat → Int32} {kac : Int32} {knx : Int32} {kim : Int32} {cf : Nat → SC} {m_taped : Int32} {d_tape : Nat → Int32} {d_r : Nat → Int32} {d_st : Nat → Int32} {d_undone : Nat → Int32} {d_kept : Nat → Int32} {m_undos : Int32} {m_images : Int32} {m_hasHouse : Int32} {xw mw : va_W} (X : Cx p s m meth c #[Value.ref b] cL_law 7 RL A g) (hX : va_X b L xs s s.heap) (hbl : b < s.heap.size) (hbA : ¬ A b) (hi : 0 ≤ u4.toInt ∧ u4.toInt + 6 ≤ (L : Int)) (hL : L ≤ 3072) (h1 : n1 ≤ 601023) (h2 : n2 ≤ 7293028) (hlt : l.stackTraces = false) (hZ : kZ A s s.heap) (htsE : ∀ w ∈ wsE, w.before #[Value.ref b] s = true) (hx : XW g h0 xtpd tpf yhnf yhtn yhtf yhjn yhjf yhmn yhmf yhbn yhbf yhsn yhsf yhcn yhcf zrn zmn zwn zpn zmd ztr zrf zmf zwf zpf kac knx kim cf xw) (hm : MW g mo m_taped d_tape d_r d_st d_undone d_kept m_undos m_images m_hasHouse mw) (hR : LR xtpd tpf yhnf yhtn yhtf yhjn yhjf yhmn yhmf yhbn yhbf yhsn yhsf yhcn yhcf zrn zmn zwn zpn zmd ztr zrf zmf zwf zpf kac knx kim cf m_taped d_tape d_r d_st d_undone d_kept m_undos m_images m_hasHouse) (kk : ∀ (xtpd_2 : Int32) (tpf_2 : Nat → Int32) (yhnf_2 : Nat → Int32) (yhtn_2 : Int32) (yhtf_2 : Nat → Int32) (yhjn_2 : Int32) (yhjf_2 : Nat → Int32) (yhmn_2 : Int32) (yhmf_2 : Nat → Int32) (yhbn_2 : Int32) (yhbf_2 : Nat → Int32) (yhsn_2 : Int32) (yhsf_2 : Nat → Int32) (yhcn_2 : Int32) (yhcf_2 : Nat → Int32) (zrn_2 : Int32) (zmn_2 : Int32) (zwn_2 : Int32) (zpn_2 : Int32) (zmd_2 : Int32) (ztr_2 : Int32) (zrf_2 : Nat → Int32) (zmf_2 : Nat → Int32) (zwf_2 : Nat → Int32) (zpf_2 : Nat → Int32) (kac_2 : Int32) (knx_2 : Int32) (kim_2 : Int32) (cf_2 : Nat → SC) (m_taped_2 : Int32) (d_tape_2 : Nat → Int32) (d_r_2 : Nat → Int32) (d_st_2 : Nat → Int32) (d_undone_2 : Nat → Int32) (d_kept_2 : Nat → Int32) (m_undos_2 : Int32) (m_images_2 : Int32) (m_hasHouse_2 : Int32) (xw2 mw2 : va_W), XW g h0 xtpd_2 tpf_2 yhnf_2 yhtn_2 yhtf_2 yhjn_2 yhjf_2 yhmn_2 yhmf_2 yhbn_2 yhbf_2 yhsn_2 yhsf_2 yhcn_2 yhcf_2 zrn_2 zmn_2 zwn_2 zpn_2 zmd_2 ztr_2 zrf_2 zmf_2 zwf_2 zpf_2 kac_2 knx_2 kim_2 cf_2 xw2 → MW g mo m_taped_2 d_tape_2 d_r_2 d_st_2 d_undone_2 d_kept_2 m_undos_2 m_images_2 m_hasHouse_2 mw2 → LR xtpd_2 tpf_2 yhnf_2 yhtn_2 yhtf_2 yhjn_2 yhjf_2 yhmn_2 yhmf_2 yhbn_2 yhbf_2 yhsn_2 yhsf_2 yhcn_2 yhcf_2 zrn_2 zmn_2 zwn_2 zpn_2 zmd_2 ztr_2 zrf_2 zmf_2 zwf_2 zpf_2 kac_2 knx_2 kim_2 cf_2 m_taped_2 d_tape_2 d_r_2 d_st_2 d_undone_2 d_kept_2 m_undos_2 m_images_2 m_hasHouse_2 → Wk p l e room_1 s m #[Value.ref b] below meth c (lw_Z below #[Value.ref b] s) A g 7 n1 n2 (xw2 ++ (mw2 ++ [(cAJ g lo 1 fo)])) [(4, .int u4), (3, .ref lo), (2, .ref mo), (1, .ref h0), (0, .ref b)] 2062 []) : Wk p l e room_1 s m #[Value.ref b] below meth c (lw_Z below #[Value.ref b] s) A g 7 n1 n2 (xw ++ (mw ++ [(cAJ g lo 1 fo)])) [(4, .int u4), (3, .ref lo), (2, .ref mo), (1, .ref h0), (0, .ref b)] 374 [] := by
  have hiv : IV u4 0 3066 := ⟨hi.1, by omega⟩
  refine k_aload_n X dL_law_k6.1.1 3 rfl ?_
  refine lx_fault (st := []) () X hx dL_law_k6.1.2.1 mw622 (Nat.le_of_ble_eq_true rfl) (Nat.le_of_ble_eq_true rfl) (Nat.le_of_ble_eq_true rfl) (Nat.le_trans h1 (Nat.le_of_ble_eq_true rfl)) (Nat.le_trans h2 (Nat.le_of_ble_eq_true rfl)) (fun r_1 xw_2 hx_3 => ?_)
  refine k_pop X dL_law_k6.1.2.2 rfl ?_
  refine k_aload_n X dL_law_k6.2.1.1 2 rfl ?_
  refine lm_fault (st := []) () X hm dL_law_k6.2.1.2 mw626 (Nat.le_of_ble_eq_true rfl) (Nat.le_of_ble_eq_true rfl) (Nat.le_of_ble_eq_true rfl) (Nat.le_trans h1 (Nat.le_of_ble_eq_true rfl)) (Nat.le_trans h2 (Nat.le_of_ble_eq_true rfl)) (fun r_4 mw_5 hm_6 => ?_)
  refine k_pop X dL_law_k6.2.2.1 rfl ?_
  refine k_goto 2062 X dL_law_k6.2.2.2 (jp_e rfl) ?_
  exact kk _ _ _ _ _ _ _ _ _ _ _ _ _ _ _ _ _ _ _ _ _ _ _ _ _ _ _ _ _ _ _ _ _ _ _ _ _ _ _ _ hx_3 hm_6 hR

theorem dL_law_k7 : ((dD cL_law 387 (.aload_n 1) 1 ∧ (dD cL_law 388 (.invokevirtual 33) 3 ∧ dD cL_law 391 .pop 1)) ∧ ((dD cL_law 392 (.aload_n 2) 1 ∧ dD cL_law 393 (.invokevirtual 36) 3) ∧ (dD cL_law 396 .pop 1 ∧ dD cL_law 397 (.goto 1665) 3))) := dkA7 (by decide +kernel)
set_option maxHeartbeats 4000000 in
set_option maxRecDepth 100000 in
theorem law_c3 {p : Program} {l : Launch} {e : Env} {s : State} {m : MethodId} {below : List Frame} {meth : Method} {c : Code} {A : Nat → Prop} {g : Gx} {b L : Nat} {xs : Nat → Int32} {h0 mo lo n1 n2 : Nat} {fo : Nat → Int64} {u4 : Int32} {xtpd : Int32} {tpf : Nat → Int32} {yhnf : Nat → Int32} {yhtn : Int32} {yhtf : Nat → Int32} {yhjn : Int32} {yhjf : Nat → Int32} {yhmn : Int32} {yhmf : Nat → Int32} {yhbn : Int32} {yhbf : Nat → Int32} {yhsn : Int32} {yhsf : Nat → Int32} {yhcn : Int32} {yhcf : Nat → Int32} {zrn : Int32} {zmn : Int32} {zwn : Int32} {zpn : Int32} {zmd : Int32} {ztr : Int32} {zrf : Nat → Int32} {zmf : Nat → Int32} {zwf : Nat → Int32} {zpf : Nat → Int32} {kac : Int32} {knx : Int32} {kim : Int32} {cf : Nat → SC} {m_taped : Int32} {d_tape : Nat → Int32} {d_r : Nat → Int32} {d_st : Nat → Int32} {d_undone : Nat → Int32} {d_kept : Nat → Int32} {m_undos : Int32} {m_images : Int32} {m_hasHouse : Int32} {xw mw : va_W} (X : Cx p s m meth c #[Value.ref b] cL_law 7 RL A g) (hX : va_X b L xs s s.heap) (hbl : b < s.heap.size) (hbA : ¬ A b) (hi : 0 ≤ u4.toInt ∧ u4.toInt + 6 ≤ (L : Int)) (hL : L ≤ 3072) (h1 : n1 ≤ 601023) (h2 : n2 ≤ 7293028) (hlt : l.stackTraces = false) (hZ : kZ A s s.heap) (htsE : ∀ w ∈ wsE, w.before #[Value.ref b] s = true) (hx : XW g h0 xtpd tpf yhnf yhtn yhtf yhjn yhjf yhmn yhmf yhbn yhbf yhsn yhsf yhcn yhcf zrn zmn zwn zpn zmd ztr zrf zmf zwf zpf kac knx kim cf xw) (hm : MW g mo m_taped d_tape d_r d_st d_undone d_kept m_undos m_images m_hasHouse mw) (hR : LR xtpd tpf yhnf yhtn yhtf yhjn yhjf yhmn yhmf yhbn yhbf yhsn yhsf yhcn yhcf zrn zmn zwn zpn zmd ztr zrf zmf zwf zpf kac knx kim cf m_taped d_tape d_r d_st d_undone d_kept m_undos m_images m_hasHouse) (kk : ∀ (xtpd_2 : Int32) (tpf_2 : Nat → Int32) (yhnf_2 : Nat → Int32) (yhtn_2 : Int32) (yhtf_2 : Nat → Int32) (yhjn_2 : Int32) (yhjf_2 : Nat → Int32) (yhmn_2 : Int32) (yhmf_2 : Nat → Int32) (yhbn_2 : Int32) (yhbf_2 : Nat → Int32) (yhsn_2 : Int32) (yhsf_2 : Nat → Int32) (yhcn_2 : Int32) (yhcf_2 : Nat → Int32) (zrn_2 : Int32) (zmn_2 : Int32) (zwn_2 : Int32) (zpn_2 : Int32) (zmd_2 : Int32) (ztr_2 : Int32) (zrf_2 : Nat → Int32) (zmf_2 : Nat → Int32) (zwf_2 : Nat → Int32) (zpf_2 : Nat → Int32) (kac_2 : Int32) (knx_2 : Int32) (kim_2 : Int32) (cf_2 : Nat → SC) (m_taped_2 : Int32) (d_tape_2 : Nat → Int32) (d_r_2 : Nat → Int32) (d_st_2 : Nat → Int32) (d_undone_2 : Nat → Int32) (d_kept_2 : Nat → Int32) (m_undos_2 : Int32) (m_images_2 : Int32) (m_hasHouse_2 : Int32) (xw2 mw2 : va_W), XW g h0 xtpd_2 tpf_2 yhnf_2 yhtn_2 yhtf_2 yhjn_2 yhjf_2 yhmn_2 yhmf_2 yhbn_2 yhbf_2 yhsn_2 yhsf_2 yhcn_2 yhcf_2 zrn_2 zmn_2 zwn_2 zpn_2 zmd_2 ztr_2 zrf_2 zmf_2 zwf_2 zpf_2 kac_2 knx_2 kim_2 cf_2 xw2 → MW g mo m_taped_2 d_tape_2 d_r_2 d_st_2 d_undone_2 d_kept_2 m_undos_2 m_images_2 m_hasHouse_2 mw2 → LR xtpd_2 tpf_2 yhnf_2 yhtn_2 yhtf_2 yhjn_2 yhjf_2 yhmn_2 yhmf_2 yhbn_2 yhbf_2 yhsn_2 yhsf_2 yhcn_2 yhcf_2 zrn_2 zmn_2 zwn_2 zpn_2 zmd_2 ztr_2 zrf_2 zmf_2 zwf_2 zpf_2 kac_2 knx_2 kim_2 cf_2 m_taped_2 d_tape_2 d_r_2 d_st_2 d_undone_2 d_kept_2 m_undos_2 m_images_2 m_hasHouse_2 → Wk p l e room_1 s m #[Value.ref b] below meth c (lw_Z below #[Value.ref b] s) A g 7 n1 n2 (xw2 ++ (mw2 ++ [(cAJ g lo 1 fo)])) [(4, .int u4), (3, .ref lo), (2, .ref mo), (1, .ref h0), (0, .ref b)] 2062 []) : Wk p l e room_1 s m #[Value.ref b] below meth c (lw_Z below #[Value.ref b] s) A g 7 n1 n2 (xw ++ (mw ++ [(cAJ g lo 1 fo)])) [(4, .int u4), (3, .ref lo), (2, .ref mo), (1, .ref h0), (0, .ref b)] 387 [] := by
  have hiv : IV u4 0 3066 := ⟨hi.1, by omega⟩
  refine k_aload_n X dL_law_k7.1.1 3 rfl ?_
  refine lx_where (st := []) () X hx dL_law_k7.1.2.1 mw630 (Nat.le_of_ble_eq_true rfl) (Nat.le_of_ble_eq_true rfl) (Nat.le_of_ble_eq_true rfl) (Nat.le_trans h1 (Nat.le_of_ble_eq_true rfl)) (Nat.le_trans h2 (Nat.le_of_ble_eq_true rfl)) (fun r_1 xw_2 hx_3 => ?_)
  refine k_pop X dL_law_k7.1.2.2 rfl ?_
  refine k_aload_n X dL_law_k7.2.1.1 2 rfl ?_
  refine lm_where (st := []) () X hm dL_law_k7.2.1.2 mw635 (Nat.le_of_ble_eq_true rfl) (Nat.le_of_ble_eq_true rfl) (Nat.le_of_ble_eq_true rfl) (Nat.le_trans h1 (Nat.le_of_ble_eq_true rfl)) (Nat.le_trans h2 (Nat.le_of_ble_eq_true rfl)) (fun r_4 mw_5 hm_6 => ?_)
  refine k_pop X dL_law_k7.2.2.1 rfl ?_
  refine k_goto 2062 X dL_law_k7.2.2.2 (jp_e rfl) ?_
  exact kk _ _ _ _ _ _ _ _ _ _ _ _ _ _ _ _ _ _ _ _ _ _ _ _ _ _ _ _ _ _ _ _ _ _ _ _ _ _ _ _ hx_3 hm_6 hR

theorem dL_law_k8 : ((((dD cL_law 400 (.aload_n 1) 1 ∧ dD cL_law 401 (.aload_n 0) 1) ∧ (dD cL_law 402 (.iload 4) 2 ∧ dD cL_law 404 (.iconst 1) 1)) ∧ ((dD cL_law 405 .iadd 1 ∧ dD cL_law 406 .iaload 1) ∧ (dD cL_law 407 (.aload_n 0) 1 ∧ dD cL_law 408 (.iload 4) 2))) ∧ (((dD cL_law 410 (.iconst 2) 1 ∧ dD cL_law 411 .iadd 1) ∧ (dD cL_law 412 .iaload 1 ∧ dD cL_law 413 (.invokevirtual 37) 3)) ∧ ((dD cL_law 416 .pop 1 ∧ dD cL_law 417 (.aload_n 2) 1) ∧ (dD cL_law 418 (.aload_n 0) 1 ∧ dD cL_law 419 (.iload 4) 2)))) := dkA16 (by decide +kernel)
theorem dL_law_k9 : (((dD cL_law 421 (.iconst 1) 1 ∧ dD cL_law 422 .iadd 1) ∧ (dD cL_law 423 .iaload 1 ∧ (dD cL_law 424 (.aload_n 0) 1 ∧ dD cL_law 425 (.iload 4) 2))) ∧ ((dD cL_law 427 (.iconst 2) 1 ∧ (dD cL_law 428 .iadd 1 ∧ dD cL_law 429 .iaload 1)) ∧ (dD cL_law 430 (.invokevirtual 41) 3 ∧ (dD cL_law 433 .pop 1 ∧ dD cL_law 434 (.goto 1628) 3)))) := dkA11 (by decide +kernel)
set_option maxHeartbeats 4000000 in
set_option maxRecDepth 100000 in
theorem law_c4 {p : Program} {l : Launch} {e : Env} {s : State} {m : MethodId} {below : List Frame} {meth : Method} {c : Code} {A : Nat → Prop} {g : Gx} {b L : Nat} {xs : Nat → Int32} {h0 mo lo n1 n2 : Nat} {fo : Nat → Int64} {u4 : Int32} {xtpd : Int32} {tpf : Nat → Int32} {yhnf : Nat → Int32} {yhtn : Int32} {yhtf : Nat → Int32} {yhjn : Int32} {yhjf : Nat → Int32} {yhmn : Int32} {yhmf : Nat → Int32} {yhbn : Int32} {yhbf : Nat → Int32} {yhsn : Int32} {yhsf : Nat → Int32} {yhcn : Int32} {yhcf : Nat → Int32} {zrn : Int32} {zmn : Int32} {zwn : Int32} {zpn : Int32} {zmd : Int32} {ztr : Int32} {zrf : Nat → Int32} {zmf : Nat → Int32} {zwf : Nat → Int32} {zpf : Nat → Int32} {kac : Int32} {knx : Int32} {kim : Int32} {cf : Nat → SC} {m_taped : Int32} {d_tape : Nat → Int32} {d_r : Nat → Int32} {d_st : Nat → Int32} {d_undone : Nat → Int32} {d_kept : Nat → Int32} {m_undos : Int32} {m_images : Int32} {m_hasHouse : Int32} {xw mw : va_W} (X : Cx p s m meth c #[Value.ref b] cL_law 7 RL A g) (hX : va_X b L xs s s.heap) (hbl : b < s.heap.size) (hbA : ¬ A b) (hi : 0 ≤ u4.toInt ∧ u4.toInt + 6 ≤ (L : Int)) (hL : L ≤ 3072) (h1 : n1 ≤ 601023) (h2 : n2 ≤ 7293028) (hlt : l.stackTraces = false) (hZ : kZ A s s.heap) (htsE : ∀ w ∈ wsE, w.before #[Value.ref b] s = true) (hx : XW g h0 xtpd tpf yhnf yhtn yhtf yhjn yhjf yhmn yhmf yhbn yhbf yhsn yhsf yhcn yhcf zrn zmn zwn zpn zmd ztr zrf zmf zwf zpf kac knx kim cf xw) (hm : MW g mo m_taped d_tape d_r d_st d_undone d_kept m_undos m_images m_hasHouse mw) (hR : LR xtpd tpf yhnf yhtn yhtf yhjn yhjf yhmn yhmf yhbn yhbf yhsn yhsf yhcn yhcf zrn zmn zwn zpn zmd ztr zrf zmf zwf zpf kac knx kim cf m_taped d_tape d_r d_st d_undone d_kept m_undos m_images m_hasHouse) (kk : ∀ (xtpd_2 : Int32) (tpf_2 : Nat → Int32) (yhnf_2 : Nat → Int32) (yhtn_2 : Int32) (yhtf_2 : Nat → Int32) (yhjn_2 : Int32) (yhjf_2 : Nat → Int32) (yhmn_2 : Int32) (yhmf_2 : Nat → Int32) (yhbn_2 : Int32) (yhbf_2 : Nat → Int32) (yhsn_2 : Int32) (yhsf_2 : Nat → Int32) (yhcn_2 : Int32) (yhcf_2 : Nat → Int32) (zrn_2 : Int32) (zmn_2 : Int32) (zwn_2 : Int32) (zpn_2 : Int32) (zmd_2 : Int32) (ztr_2 : Int32) (zrf_2 : Nat → Int32) (zmf_2 : Nat → Int32) (zwf_2 : Nat → Int32) (zpf_2 : Nat → Int32) (kac_2 : Int32) (knx_2 : Int32) (kim_2 : Int32) (cf_2 : Nat → SC) (m_taped_2 : Int32) (d_tape_2 : Nat → Int32) (d_r_2 : Nat → Int32) (d_st_2 : Nat → Int32) (d_undone_2 : Nat → Int32) (d_kept_2 : Nat → Int32) (m_undos_2 : Int32) (m_images_2 : Int32) (m_hasHouse_2 : Int32) (xw2 mw2 : va_W), XW g h0 xtpd_2 tpf_2 yhnf_2 yhtn_2 yhtf_2 yhjn_2 yhjf_2 yhmn_2 yhmf_2 yhbn_2 yhbf_2 yhsn_2 yhsf_2 yhcn_2 yhcf_2 zrn_2 zmn_2 zwn_2 zpn_2 zmd_2 ztr_2 zrf_2 zmf_2 zwf_2 zpf_2 kac_2 knx_2 kim_2 cf_2 xw2 → MW g mo m_taped_2 d_tape_2 d_r_2 d_st_2 d_undone_2 d_kept_2 m_undos_2 m_images_2 m_hasHouse_2 mw2 → LR xtpd_2 tpf_2 yhnf_2 yhtn_2 yhtf_2 yhjn_2 yhjf_2 yhmn_2 yhmf_2 yhbn_2 yhbf_2 yhsn_2 yhsf_2 yhcn_2 yhcf_2 zrn_2 zmn_2 zwn_2 zpn_2 zmd_2 ztr_2 zrf_2 zmf_2 zwf_2 zpf_2 kac_2 knx_2 kim_2 cf_2 m_taped_2 d_tape_2 d_r_2 d_st_2 d_undone_2 d_kept_2 m_undos_2 m_images_2 m_hasHouse_2 → Wk p l e room_1 s m #[Value.ref b] below meth c (lw_Z below #[Value.ref b] s) A g 7 n1 n2 (xw2 ++ (mw2 ++ [(cAJ g lo 1 fo)])) [(4, .int u4), (3, .ref lo), (2, .ref mo), (1, .ref h0), (0, .ref b)] 2062 []) : Wk p l e room_1 s m #[Value.ref b] below meth c (lw_Z below #[Value.ref b] s) A g 7 n1 n2 (xw ++ (mw ++ [(cAJ g lo 1 fo)])) [(4, .int u4), (3, .ref lo), (2, .ref mo), (1, .ref h0), (0, .ref b)] 400 [] := by
  have hiv : IV u4 0 3066 := ⟨hi.1, by omega⟩
  refine k_aload_n X dL_law_k8.1.1.1.1 3 rfl ?_
  refine k_aload_n X dL_law_k8.1.1.1.2 4 rfl ?_
  refine k_iload X dL_law_k8.1.1.2.1 0 rfl ?_
  refine k_iconst (v := 1) X dL_law_k8.1.1.2.2 ic_1 ?_
  refine k_iadd X dL_law_k8.1.2.1.1 ?_
  refine k_nm (fun z_1 ez_1 => ?_)
  have i_2 : z_1.toInt = u4.toInt + 1 := in_add ez_1 hiv iq_1_1_1 (zle_e rfl) (zle_e rfl)
  have iv_3 : IV z_1 1 3067 := by have := hiv; have := iq_1_1_1; rw [IV, i_2]; omega
  refine k_sld X hX hbl hbA dL_law_k8.1.2.1.2 (by rw [vp_in_iff]; have := iv_3; omega) ?_
  refine k_nm (fun a_4 ea_4 => ?_)
  refine k_aload_n X dL_law_k8.1.2.2.1 4 rfl ?_
  refine k_iload X dL_law_k8.1.2.2.2 0 rfl ?_
  refine k_iconst (v := 2) X dL_law_k8.2.1.1.1 ic_2 ?_
  refine k_iadd X dL_law_k8.2.1.1.2 ?_
  refine k_nm (fun z_5 ez_5 => ?_)
  have i_6 : z_5.toInt = u4.toInt + 2 := in_add ez_5 hiv iq_2_2_2 (zle_e rfl) (zle_e rfl)
  have iv_7 : IV z_5 2 3068 := by have := hiv; have := iq_2_2_2; rw [IV, i_6]; omega
  refine k_sld X hX hbl hbA dL_law_k8.2.1.2.1 (by rw [vp_in_iff]; have := iv_7; omega) ?_
  refine k_nm (fun a_8 ea_8 => ?_)
  refine lx_reel (st := []) a_4 a_8 X hx dL_law_k8.2.1.2.2 mw639 (Nat.le_of_ble_eq_true rfl) (Nat.le_of_ble_eq_true rfl) (Nat.le_of_ble_eq_true rfl) (Nat.le_trans h1 (Nat.le_of_ble_eq_true rfl)) (Nat.le_trans h2 (Nat.le_of_ble_eq_true rfl)) (fun r_9 xw_10 hx_11 => ?_)
  refine k_pop X dL_law_k8.2.2.1.1 rfl ?_
  refine k_aload_n X dL_law_k8.2.2.1.2 2 rfl ?_
  refine k_aload_n X dL_law_k8.2.2.2.1 4 rfl ?_
  refine k_iload X dL_law_k8.2.2.2.2 0 rfl ?_
  refine k_iconst (v := 1) X dL_law_k9.1.1.1 ic_1 ?_
  refine k_iadd X dL_law_k9.1.1.2 ?_
  refine k_to z_1 ez_1.symm ?_
  refine k_sld X hX hbl hbA dL_law_k9.1.2.1 (by rw [vp_in_iff]; have := iv_3; omega) ?_
  refine k_to a_4 ea_4.symm ?_
  refine k_aload_n X dL_law_k9.1.2.2.1 4 rfl ?_
  refine k_iload X dL_law_k9.1.2.2.2 0 rfl ?_
  refine k_iconst (v := 2) X dL_law_k9.2.1.1 ic_2 ?_
  refine k_iadd X dL_law_k9.2.1.2.1 ?_
  refine k_to z_5 ez_5.symm ?_
  refine k_sld X hX hbl hbA dL_law_k9.2.1.2.2 (by rw [vp_in_iff]; have := iv_7; omega) ?_
  refine k_to a_8 ea_8.symm ?_
  refine lm_reel (st := []) a_4 a_8 X hm dL_law_k9.2.2.1 mw666 (Nat.le_of_ble_eq_true rfl) (Nat.le_of_ble_eq_true rfl) (Nat.le_of_ble_eq_true rfl) (Nat.le_trans h1 (Nat.le_of_ble_eq_true rfl)) (Nat.le_trans h2 (Nat.le_of_ble_eq_true rfl)) (fun r_12 mw_13 hm_14 => ?_)
  refine k_pop X dL_law_k9.2.2.2.1 rfl ?_
  refine k_goto 2062 X dL_law_k9.2.2.2.2 (jp_e rfl) ?_
  exact kk _ _ _ _ _ _ _ _ _ _ _ _ _ _ _ _ _ _ _ _ _ _ _ _ _ _ _ _ _ _ _ _ _ _ _ _ _ _ _ _ hx_11 hm_14 hR

theorem dL_law_k10 : ((((dD cL_law 437 (.aload_n 1) 1 ∧ dD cL_law 438 (.aload_n 0) 1) ∧ (dD cL_law 439 (.iload 4) 2 ∧ dD cL_law 441 (.iconst 1) 1)) ∧ ((dD cL_law 442 .iadd 1 ∧ dD cL_law 443 .iaload 1) ∧ (dD cL_law 444 (.aload_n 0) 1 ∧ dD cL_law 445 (.iload 4) 2))) ∧ (((dD cL_law 447 (.iconst 2) 1 ∧ dD cL_law 448 .iadd 1) ∧ (dD cL_law 449 .iaload 1 ∧ dD cL_law 450 (.invokevirtual 42) 3)) ∧ ((dD cL_law 453 .pop 1 ∧ dD cL_law 454 (.aload_n 2) 1) ∧ (dD cL_law 455 (.aload_n 0) 1 ∧ dD cL_law 456 (.iload 4) 2)))) := dkA16 (by decide +kernel)
theorem dL_law_k11 : (((dD cL_law 458 (.iconst 1) 1 ∧ dD cL_law 459 .iadd 1) ∧ (dD cL_law 460 .iaload 1 ∧ (dD cL_law 461 (.aload_n 0) 1 ∧ dD cL_law 462 (.iload 4) 2))) ∧ ((dD cL_law 464 (.iconst 2) 1 ∧ (dD cL_law 465 .iadd 1 ∧ dD cL_law 466 .iaload 1)) ∧ (dD cL_law 467 (.invokevirtual 45) 3 ∧ (dD cL_law 470 .pop 1 ∧ dD cL_law 471 (.goto 1591) 3)))) := dkA11 (by decide +kernel)
set_option maxHeartbeats 4000000 in
set_option maxRecDepth 100000 in
theorem law_c5 {p : Program} {l : Launch} {e : Env} {s : State} {m : MethodId} {below : List Frame} {meth : Method} {c : Code} {A : Nat → Prop} {g : Gx} {b L : Nat} {xs : Nat → Int32} {h0 mo lo n1 n2 : Nat} {fo : Nat → Int64} {u4 : Int32} {xtpd : Int32} {tpf : Nat → Int32} {yhnf : Nat → Int32} {yhtn : Int32} {yhtf : Nat → Int32} {yhjn : Int32} {yhjf : Nat → Int32} {yhmn : Int32} {yhmf : Nat → Int32} {yhbn : Int32} {yhbf : Nat → Int32} {yhsn : Int32} {yhsf : Nat → Int32} {yhcn : Int32} {yhcf : Nat → Int32} {zrn : Int32} {zmn : Int32} {zwn : Int32} {zpn : Int32} {zmd : Int32} {ztr : Int32} {zrf : Nat → Int32} {zmf : Nat → Int32} {zwf : Nat → Int32} {zpf : Nat → Int32} {kac : Int32} {knx : Int32} {kim : Int32} {cf : Nat → SC} {m_taped : Int32} {d_tape : Nat → Int32} {d_r : Nat → Int32} {d_st : Nat → Int32} {d_undone : Nat → Int32} {d_kept : Nat → Int32} {m_undos : Int32} {m_images : Int32} {m_hasHouse : Int32} {xw mw : va_W} (X : Cx p s m meth c #[Value.ref b] cL_law 7 RL A g) (hX : va_X b L xs s s.heap) (hbl : b < s.heap.size) (hbA : ¬ A b) (hi : 0 ≤ u4.toInt ∧ u4.toInt + 6 ≤ (L : Int)) (hL : L ≤ 3072) (h1 : n1 ≤ 601023) (h2 : n2 ≤ 7293028) (hlt : l.stackTraces = false) (hZ : kZ A s s.heap) (htsE : ∀ w ∈ wsE, w.before #[Value.ref b] s = true) (hx : XW g h0 xtpd tpf yhnf yhtn yhtf yhjn yhjf yhmn yhmf yhbn yhbf yhsn yhsf yhcn yhcf zrn zmn zwn zpn zmd ztr zrf zmf zwf zpf kac knx kim cf xw) (hm : MW g mo m_taped d_tape d_r d_st d_undone d_kept m_undos m_images m_hasHouse mw) (hR : LR xtpd tpf yhnf yhtn yhtf yhjn yhjf yhmn yhmf yhbn yhbf yhsn yhsf yhcn yhcf zrn zmn zwn zpn zmd ztr zrf zmf zwf zpf kac knx kim cf m_taped d_tape d_r d_st d_undone d_kept m_undos m_images m_hasHouse) (kk : ∀ (xtpd_2 : Int32) (tpf_2 : Nat → Int32) (yhnf_2 : Nat → Int32) (yhtn_2 : Int32) (yhtf_2 : Nat → Int32) (yhjn_2 : Int32) (yhjf_2 : Nat → Int32) (yhmn_2 : Int32) (yhmf_2 : Nat → Int32) (yhbn_2 : Int32) (yhbf_2 : Nat → Int32) (yhsn_2 : Int32) (yhsf_2 : Nat → Int32) (yhcn_2 : Int32) (yhcf_2 : Nat → Int32) (zrn_2 : Int32) (zmn_2 : Int32) (zwn_2 : Int32) (zpn_2 : Int32) (zmd_2 : Int32) (ztr_2 : Int32) (zrf_2 : Nat → Int32) (zmf_2 : Nat → Int32) (zwf_2 : Nat → Int32) (zpf_2 : Nat → Int32) (kac_2 : Int32) (knx_2 : Int32) (kim_2 : Int32) (cf_2 : Nat → SC) (m_taped_2 : Int32) (d_tape_2 : Nat → Int32) (d_r_2 : Nat → Int32) (d_st_2 : Nat → Int32) (d_undone_2 : Nat → Int32) (d_kept_2 : Nat → Int32) (m_undos_2 : Int32) (m_images_2 : Int32) (m_hasHouse_2 : Int32) (xw2 mw2 : va_W), XW g h0 xtpd_2 tpf_2 yhnf_2 yhtn_2 yhtf_2 yhjn_2 yhjf_2 yhmn_2 yhmf_2 yhbn_2 yhbf_2 yhsn_2 yhsf_2 yhcn_2 yhcf_2 zrn_2 zmn_2 zwn_2 zpn_2 zmd_2 ztr_2 zrf_2 zmf_2 zwf_2 zpf_2 kac_2 knx_2 kim_2 cf_2 xw2 → MW g mo m_taped_2 d_tape_2 d_r_2 d_st_2 d_undone_2 d_kept_2 m_undos_2 m_images_2 m_hasHouse_2 mw2 → LR xtpd_2 tpf_2 yhnf_2 yhtn_2 yhtf_2 yhjn_2 yhjf_2 yhmn_2 yhmf_2 yhbn_2 yhbf_2 yhsn_2 yhsf_2 yhcn_2 yhcf_2 zrn_2 zmn_2 zwn_2 zpn_2 zmd_2 ztr_2 zrf_2 zmf_2 zwf_2 zpf_2 kac_2 knx_2 kim_2 cf_2 m_taped_2 d_tape_2 d_r_2 d_st_2 d_undone_2 d_kept_2 m_undos_2 m_images_2 m_hasHouse_2 → Wk p l e room_1 s m #[Value.ref b] below meth c (lw_Z below #[Value.ref b] s) A g 7 n1 n2 (xw2 ++ (mw2 ++ [(cAJ g lo 1 fo)])) [(4, .int u4), (3, .ref lo), (2, .ref mo), (1, .ref h0), (0, .ref b)] 2062 []) : Wk p l e room_1 s m #[Value.ref b] below meth c (lw_Z below #[Value.ref b] s) A g 7 n1 n2 (xw ++ (mw ++ [(cAJ g lo 1 fo)])) [(4, .int u4), (3, .ref lo), (2, .ref mo), (1, .ref h0), (0, .ref b)] 437 [] := by
  have hiv : IV u4 0 3066 := ⟨hi.1, by omega⟩
  refine k_aload_n X dL_law_k10.1.1.1.1 3 rfl ?_
  refine k_aload_n X dL_law_k10.1.1.1.2 4 rfl ?_
  refine k_iload X dL_law_k10.1.1.2.1 0 rfl ?_
  refine k_iconst (v := 1) X dL_law_k10.1.1.2.2 ic_1 ?_
  refine k_iadd X dL_law_k10.1.2.1.1 ?_
  refine k_nm (fun z_1 ez_1 => ?_)
  have i_2 : z_1.toInt = u4.toInt + 1 := in_add ez_1 hiv iq_1_1_1 (zle_e rfl) (zle_e rfl)
  have iv_3 : IV z_1 1 3067 := by have := hiv; have := iq_1_1_1; rw [IV, i_2]; omega
  refine k_sld X hX hbl hbA dL_law_k10.1.2.1.2 (by rw [vp_in_iff]; have := iv_3; omega) ?_
  refine k_nm (fun a_4 ea_4 => ?_)
  refine k_aload_n X dL_law_k10.1.2.2.1 4 rfl ?_
  refine k_iload X dL_law_k10.1.2.2.2 0 rfl ?_
  refine k_iconst (v := 2) X dL_law_k10.2.1.1.1 ic_2 ?_
  refine k_iadd X dL_law_k10.2.1.1.2 ?_
  refine k_nm (fun z_5 ez_5 => ?_)
  have i_6 : z_5.toInt = u4.toInt + 2 := in_add ez_5 hiv iq_2_2_2 (zle_e rfl) (zle_e rfl)
  have iv_7 : IV z_5 2 3068 := by have := hiv; have := iq_2_2_2; rw [IV, i_6]; omega
  refine k_sld X hX hbl hbA dL_law_k10.2.1.2.1 (by rw [vp_in_iff]; have := iv_7; omega) ?_
  refine k_nm (fun a_8 ea_8 => ?_)
  refine lx_mark (st := []) a_4 a_8 X hx dL_law_k10.2.1.2.2 mw693 (Nat.le_of_ble_eq_true rfl) (Nat.le_of_ble_eq_true rfl) (Nat.le_of_ble_eq_true rfl) (Nat.le_trans h1 (Nat.le_of_ble_eq_true rfl)) (Nat.le_trans h2 (Nat.le_of_ble_eq_true rfl)) (fun r_9 xw_10 hx_11 => ?_)
  refine k_pop X dL_law_k10.2.2.1.1 rfl ?_
  refine k_aload_n X dL_law_k10.2.2.1.2 2 rfl ?_
  refine k_aload_n X dL_law_k10.2.2.2.1 4 rfl ?_
  refine k_iload X dL_law_k10.2.2.2.2 0 rfl ?_
  refine k_iconst (v := 1) X dL_law_k11.1.1.1 ic_1 ?_
  refine k_iadd X dL_law_k11.1.1.2 ?_
  refine k_to z_1 ez_1.symm ?_
  refine k_sld X hX hbl hbA dL_law_k11.1.2.1 (by rw [vp_in_iff]; have := iv_3; omega) ?_
  refine k_to a_4 ea_4.symm ?_
  refine k_aload_n X dL_law_k11.1.2.2.1 4 rfl ?_
  refine k_iload X dL_law_k11.1.2.2.2 0 rfl ?_
  refine k_iconst (v := 2) X dL_law_k11.2.1.1 ic_2 ?_
  refine k_iadd X dL_law_k11.2.1.2.1 ?_
  refine k_to z_5 ez_5.symm ?_
  refine k_sld X hX hbl hbA dL_law_k11.2.1.2.2 (by rw [vp_in_iff]; have := iv_7; omega) ?_
  refine k_to a_8 ea_8.symm ?_
  refine lm_mark (st := []) a_4 a_8 X hm dL_law_k11.2.2.1 mw699 (Nat.le_of_ble_eq_true rfl) (Nat.le_of_ble_eq_true rfl) (Nat.le_of_ble_eq_true rfl) (Nat.le_trans h1 (Nat.le_of_ble_eq_true rfl)) (Nat.le_trans h2 (Nat.le_of_ble_eq_true rfl)) (fun r_12 mw_13 hm_14 => ?_)
  refine k_pop X dL_law_k11.2.2.2.1 rfl ?_
  refine k_goto 2062 X dL_law_k11.2.2.2.2 (jp_e rfl) ?_
  exact kk _ _ _ _ _ _ _ _ _ _ _ _ _ _ _ _ _ _ _ _ _ _ _ _ _ _ _ _ _ _ _ _ _ _ _ _ _ _ _ _ hx_11 hm_14 hR

theorem dL_law_k12 : ((((dD cL_law 474 (.aload_n 1) 1 ∧ dD cL_law 475 (.aload_n 0) 1) ∧ (dD cL_law 476 (.iload 4) 2 ∧ dD cL_law 478 (.iconst 1) 1)) ∧ ((dD cL_law 479 .iadd 1 ∧ dD cL_law 480 .iaload 1) ∧ (dD cL_law 481 (.invokevirtual 46) 3 ∧ dD cL_law 484 .pop 1))) ∧ (((dD cL_law 485 (.aload_n 2) 1 ∧ dD cL_law 486 (.aload_n 0) 1) ∧ (dD cL_law 487 (.iload 4) 2 ∧ dD cL_law 489 (.iconst 1) 1)) ∧ ((dD cL_law 490 .iadd 1 ∧ dD cL_law 491 .iaload 1) ∧ (dD cL_law 492 (.invokevirtual 49) 3 ∧ dD cL_law 495 .pop 1)))) := dkA16 (by decide +kernel)
theorem dL_law_k13 : dD cL_law 496 (.goto 1566) 3 := dkA1 (by decide +kernel)
set_option maxHeartbeats 4000000 in
set_option maxRecDepth 100000 in
theorem law_c6 {p : Program} {l : Launch} {e : Env} {s : State} {m : MethodId} {below : List Frame} {meth : Method} {c : Code} {A : Nat → Prop} {g : Gx} {b L : Nat} {xs : Nat → Int32} {h0 mo lo n1 n2 : Nat} {fo : Nat → Int64} {u4 : Int32} {xtpd : Int32} {tpf : Nat → Int32} {yhnf : Nat → Int32} {yhtn : Int32} {yhtf : Nat → Int32} {yhjn : Int32} {yhjf : Nat → Int32} {yhmn : Int32} {yhmf : Nat → Int32} {yhbn : Int32} {yhbf : Nat → Int32} {yhsn : Int32} {yhsf : Nat → Int32} {yhcn : Int32} {yhcf : Nat → Int32} {zrn : Int32} {zmn : Int32} {zwn : Int32} {zpn : Int32} {zmd : Int32} {ztr : Int32} {zrf : Nat → Int32} {zmf : Nat → Int32} {zwf : Nat → Int32} {zpf : Nat → Int32} {kac : Int32} {knx : Int32} {kim : Int32} {cf : Nat → SC} {m_taped : Int32} {d_tape : Nat → Int32} {d_r : Nat → Int32} {d_st : Nat → Int32} {d_undone : Nat → Int32} {d_kept : Nat → Int32} {m_undos : Int32} {m_images : Int32} {m_hasHouse : Int32} {xw mw : va_W} (X : Cx p s m meth c #[Value.ref b] cL_law 7 RL A g) (hX : va_X b L xs s s.heap) (hbl : b < s.heap.size) (hbA : ¬ A b) (hi : 0 ≤ u4.toInt ∧ u4.toInt + 6 ≤ (L : Int)) (hL : L ≤ 3072) (h1 : n1 ≤ 601023) (h2 : n2 ≤ 7293028) (hlt : l.stackTraces = false) (hZ : kZ A s s.heap) (htsE : ∀ w ∈ wsE, w.before #[Value.ref b] s = true) (hx : XW g h0 xtpd tpf yhnf yhtn yhtf yhjn yhjf yhmn yhmf yhbn yhbf yhsn yhsf yhcn yhcf zrn zmn zwn zpn zmd ztr zrf zmf zwf zpf kac knx kim cf xw) (hm : MW g mo m_taped d_tape d_r d_st d_undone d_kept m_undos m_images m_hasHouse mw) (hR : LR xtpd tpf yhnf yhtn yhtf yhjn yhjf yhmn yhmf yhbn yhbf yhsn yhsf yhcn yhcf zrn zmn zwn zpn zmd ztr zrf zmf zwf zpf kac knx kim cf m_taped d_tape d_r d_st d_undone d_kept m_undos m_images m_hasHouse) (kk : ∀ (xtpd_2 : Int32) (tpf_2 : Nat → Int32) (yhnf_2 : Nat → Int32) (yhtn_2 : Int32) (yhtf_2 : Nat → Int32) (yhjn_2 : Int32) (yhjf_2 : Nat → Int32) (yhmn_2 : Int32) (yhmf_2 : Nat → Int32) (yhbn_2 : Int32) (yhbf_2 : Nat → Int32) (yhsn_2 : Int32) (yhsf_2 : Nat → Int32) (yhcn_2 : Int32) (yhcf_2 : Nat → Int32) (zrn_2 : Int32) (zmn_2 : Int32) (zwn_2 : Int32) (zpn_2 : Int32) (zmd_2 : Int32) (ztr_2 : Int32) (zrf_2 : Nat → Int32) (zmf_2 : Nat → Int32) (zwf_2 : Nat → Int32) (zpf_2 : Nat → Int32) (kac_2 : Int32) (knx_2 : Int32) (kim_2 : Int32) (cf_2 : Nat → SC) (m_taped_2 : Int32) (d_tape_2 : Nat → Int32) (d_r_2 : Nat → Int32) (d_st_2 : Nat → Int32) (d_undone_2 : Nat → Int32) (d_kept_2 : Nat → Int32) (m_undos_2 : Int32) (m_images_2 : Int32) (m_hasHouse_2 : Int32) (xw2 mw2 : va_W), XW g h0 xtpd_2 tpf_2 yhnf_2 yhtn_2 yhtf_2 yhjn_2 yhjf_2 yhmn_2 yhmf_2 yhbn_2 yhbf_2 yhsn_2 yhsf_2 yhcn_2 yhcf_2 zrn_2 zmn_2 zwn_2 zpn_2 zmd_2 ztr_2 zrf_2 zmf_2 zwf_2 zpf_2 kac_2 knx_2 kim_2 cf_2 xw2 → MW g mo m_taped_2 d_tape_2 d_r_2 d_st_2 d_undone_2 d_kept_2 m_undos_2 m_images_2 m_hasHouse_2 mw2 → LR xtpd_2 tpf_2 yhnf_2 yhtn_2 yhtf_2 yhjn_2 yhjf_2 yhmn_2 yhmf_2 yhbn_2 yhbf_2 yhsn_2 yhsf_2 yhcn_2 yhcf_2 zrn_2 zmn_2 zwn_2 zpn_2 zmd_2 ztr_2 zrf_2 zmf_2 zwf_2 zpf_2 kac_2 knx_2 kim_2 cf_2 m_taped_2 d_tape_2 d_r_2 d_st_2 d_undone_2 d_kept_2 m_undos_2 m_images_2 m_hasHouse_2 → Wk p l e room_1 s m #[Value.ref b] below meth c (lw_Z below #[Value.ref b] s) A g 7 n1 n2 (xw2 ++ (mw2 ++ [(cAJ g lo 1 fo)])) [(4, .int u4), (3, .ref lo), (2, .ref mo), (1, .ref h0), (0, .ref b)] 2062 []) : Wk p l e room_1 s m #[Value.ref b] below meth c (lw_Z below #[Value.ref b] s) A g 7 n1 n2 (xw ++ (mw ++ [(cAJ g lo 1 fo)])) [(4, .int u4), (3, .ref lo), (2, .ref mo), (1, .ref h0), (0, .ref b)] 474 [] := by
  have hiv : IV u4 0 3066 := ⟨hi.1, by omega⟩
  refine k_aload_n X dL_law_k12.1.1.1.1 3 rfl ?_
  refine k_aload_n X dL_law_k12.1.1.1.2 4 rfl ?_
  refine k_iload X dL_law_k12.1.1.2.1 0 rfl ?_
  refine k_iconst (v := 1) X dL_law_k12.1.1.2.2 ic_1 ?_
  refine k_iadd X dL_law_k12.1.2.1.1 ?_
  refine k_nm (fun z_1 ez_1 => ?_)
  have i_2 : z_1.toInt = u4.toInt + 1 := in_add ez_1 hiv iq_1_1_1 (zle_e rfl) (zle_e rfl)
  have iv_3 : IV z_1 1 3067 := by have := hiv; have := iq_1_1_1; rw [IV, i_2]; omega
  refine k_sld X hX hbl hbA dL_law_k12.1.2.1.2 (by rw [vp_in_iff]; have := iv_3; omega) ?_
  refine k_nm (fun a_4 ea_4 => ?_)
  refine lx_shows (st := []) a_4 X hx dL_law_k12.1.2.2.1 mw707 (Nat.le_of_ble_eq_true rfl) (Nat.le_of_ble_eq_true rfl) (Nat.le_of_ble_eq_true rfl) (Nat.le_trans h1 (Nat.le_of_ble_eq_true rfl)) (Nat.le_trans h2 (Nat.le_of_ble_eq_true rfl)) (fun r_5 xw_6 hx_7 => ?_)
  refine k_pop X dL_law_k12.1.2.2.2 rfl ?_
  refine k_aload_n X dL_law_k12.2.1.1.1 2 rfl ?_
  refine k_aload_n X dL_law_k12.2.1.1.2 4 rfl ?_
  refine k_iload X dL_law_k12.2.1.2.1 0 rfl ?_
  refine k_iconst (v := 1) X dL_law_k12.2.1.2.2 ic_1 ?_
  refine k_iadd X dL_law_k12.2.2.1.1 ?_
  refine k_to z_1 ez_1.symm ?_
  refine k_sld X hX hbl hbA dL_law_k12.2.2.1.2 (by rw [vp_in_iff]; have := iv_3; omega) ?_
  refine k_to a_4 ea_4.symm ?_
  refine lm_shows (st := []) a_4 X hm dL_law_k12.2.2.2.1 mw715 (Nat.le_of_ble_eq_true rfl) (Nat.le_of_ble_eq_true rfl) (Nat.le_of_ble_eq_true rfl) (Nat.le_trans h1 (Nat.le_of_ble_eq_true rfl)) (Nat.le_trans h2 (Nat.le_of_ble_eq_true rfl)) (fun r_8 mw_9 hm_10 => ?_)
  refine k_pop X dL_law_k12.2.2.2.2 rfl ?_
  refine k_goto 2062 X dL_law_k13 (jp_e rfl) ?_
  exact kk _ _ _ _ _ _ _ _ _ _ _ _ _ _ _ _ _ _ _ _ _ _ _ _ _ _ _ _ _ _ _ _ _ _ _ _ _ _ _ _ hx_7 hm_10 hR

theorem dL_law_k14 : ((((dD cL_law 499 (.aload_n 1) 1 ∧ dD cL_law 500 (.aload_n 0) 1) ∧ (dD cL_law 501 (.iload 4) 2 ∧ dD cL_law 503 (.iconst 1) 1)) ∧ ((dD cL_law 504 .iadd 1 ∧ dD cL_law 505 .iaload 1) ∧ (dD cL_law 506 (.invokevirtual 50) 3 ∧ dD cL_law 509 .pop 1))) ∧ (((dD cL_law 510 (.aload_n 2) 1 ∧ dD cL_law 511 (.aload_n 0) 1) ∧ (dD cL_law 512 (.iload 4) 2 ∧ dD cL_law 514 (.iconst 1) 1)) ∧ ((dD cL_law 515 .iadd 1 ∧ dD cL_law 516 .iaload 1) ∧ (dD cL_law 517 (.invokevirtual 53) 3 ∧ dD cL_law 520 .pop 1)))) := dkA16 (by decide +kernel)
theorem dL_law_k15 : dD cL_law 521 (.goto 1541) 3 := dkA1 (by decide +kernel)
set_option maxHeartbeats 4000000 in
set_option maxRecDepth 100000 in
theorem law_c7 {p : Program} {l : Launch} {e : Env} {s : State} {m : MethodId} {below : List Frame} {meth : Method} {c : Code} {A : Nat → Prop} {g : Gx} {b L : Nat} {xs : Nat → Int32} {h0 mo lo n1 n2 : Nat} {fo : Nat → Int64} {u4 : Int32} {xtpd : Int32} {tpf : Nat → Int32} {yhnf : Nat → Int32} {yhtn : Int32} {yhtf : Nat → Int32} {yhjn : Int32} {yhjf : Nat → Int32} {yhmn : Int32} {yhmf : Nat → Int32} {yhbn : Int32} {yhbf : Nat → Int32} {yhsn : Int32} {yhsf : Nat → Int32} {yhcn : Int32} {yhcf : Nat → Int32} {zrn : Int32} {zmn : Int32} {zwn : Int32} {zpn : Int32} {zmd : Int32} {ztr : Int32} {zrf : Nat → Int32} {zmf : Nat → Int32} {zwf : Nat → Int32} {zpf : Nat → Int32} {kac : Int32} {knx : Int32} {kim : Int32} {cf : Nat → SC} {m_taped : Int32} {d_tape : Nat → Int32} {d_r : Nat → Int32} {d_st : Nat → Int32} {d_undone : Nat → Int32} {d_kept : Nat → Int32} {m_undos : Int32} {m_images : Int32} {m_hasHouse : Int32} {xw mw : va_W} (X : Cx p s m meth c #[Value.ref b] cL_law 7 RL A g) (hX : va_X b L xs s s.heap) (hbl : b < s.heap.size) (hbA : ¬ A b) (hi : 0 ≤ u4.toInt ∧ u4.toInt + 6 ≤ (L : Int)) (hL : L ≤ 3072) (h1 : n1 ≤ 601023) (h2 : n2 ≤ 7293028) (hlt : l.stackTraces = false) (hZ : kZ A s s.heap) (htsE : ∀ w ∈ wsE, w.before #[Value.ref b] s = true) (hx : XW g h0 xtpd tpf yhnf yhtn yhtf yhjn yhjf yhmn yhmf yhbn yhbf yhsn yhsf yhcn yhcf zrn zmn zwn zpn zmd ztr zrf zmf zwf zpf kac knx kim cf xw) (hm : MW g mo m_taped d_tape d_r d_st d_undone d_kept m_undos m_images m_hasHouse mw) (hR : LR xtpd tpf yhnf yhtn yhtf yhjn yhjf yhmn yhmf yhbn yhbf yhsn yhsf yhcn yhcf zrn zmn zwn zpn zmd ztr zrf zmf zwf zpf kac knx kim cf m_taped d_tape d_r d_st d_undone d_kept m_undos m_images m_hasHouse) (kk : ∀ (xtpd_2 : Int32) (tpf_2 : Nat → Int32) (yhnf_2 : Nat → Int32) (yhtn_2 : Int32) (yhtf_2 : Nat → Int32) (yhjn_2 : Int32) (yhjf_2 : Nat → Int32) (yhmn_2 : Int32) (yhmf_2 : Nat → Int32) (yhbn_2 : Int32) (yhbf_2 : Nat → Int32) (yhsn_2 : Int32) (yhsf_2 : Nat → Int32) (yhcn_2 : Int32) (yhcf_2 : Nat → Int32) (zrn_2 : Int32) (zmn_2 : Int32) (zwn_2 : Int32) (zpn_2 : Int32) (zmd_2 : Int32) (ztr_2 : Int32) (zrf_2 : Nat → Int32) (zmf_2 : Nat → Int32) (zwf_2 : Nat → Int32) (zpf_2 : Nat → Int32) (kac_2 : Int32) (knx_2 : Int32) (kim_2 : Int32) (cf_2 : Nat → SC) (m_taped_2 : Int32) (d_tape_2 : Nat → Int32) (d_r_2 : Nat → Int32) (d_st_2 : Nat → Int32) (d_undone_2 : Nat → Int32) (d_kept_2 : Nat → Int32) (m_undos_2 : Int32) (m_images_2 : Int32) (m_hasHouse_2 : Int32) (xw2 mw2 : va_W), XW g h0 xtpd_2 tpf_2 yhnf_2 yhtn_2 yhtf_2 yhjn_2 yhjf_2 yhmn_2 yhmf_2 yhbn_2 yhbf_2 yhsn_2 yhsf_2 yhcn_2 yhcf_2 zrn_2 zmn_2 zwn_2 zpn_2 zmd_2 ztr_2 zrf_2 zmf_2 zwf_2 zpf_2 kac_2 knx_2 kim_2 cf_2 xw2 → MW g mo m_taped_2 d_tape_2 d_r_2 d_st_2 d_undone_2 d_kept_2 m_undos_2 m_images_2 m_hasHouse_2 mw2 → LR xtpd_2 tpf_2 yhnf_2 yhtn_2 yhtf_2 yhjn_2 yhjf_2 yhmn_2 yhmf_2 yhbn_2 yhbf_2 yhsn_2 yhsf_2 yhcn_2 yhcf_2 zrn_2 zmn_2 zwn_2 zpn_2 zmd_2 ztr_2 zrf_2 zmf_2 zwf_2 zpf_2 kac_2 knx_2 kim_2 cf_2 m_taped_2 d_tape_2 d_r_2 d_st_2 d_undone_2 d_kept_2 m_undos_2 m_images_2 m_hasHouse_2 → Wk p l e room_1 s m #[Value.ref b] below meth c (lw_Z below #[Value.ref b] s) A g 7 n1 n2 (xw2 ++ (mw2 ++ [(cAJ g lo 1 fo)])) [(4, .int u4), (3, .ref lo), (2, .ref mo), (1, .ref h0), (0, .ref b)] 2062 []) : Wk p l e room_1 s m #[Value.ref b] below meth c (lw_Z below #[Value.ref b] s) A g 7 n1 n2 (xw ++ (mw ++ [(cAJ g lo 1 fo)])) [(4, .int u4), (3, .ref lo), (2, .ref mo), (1, .ref h0), (0, .ref b)] 499 [] := by
  have hiv : IV u4 0 3066 := ⟨hi.1, by omega⟩
  refine k_aload_n X dL_law_k14.1.1.1.1 3 rfl ?_
  refine k_aload_n X dL_law_k14.1.1.1.2 4 rfl ?_
  refine k_iload X dL_law_k14.1.1.2.1 0 rfl ?_
  refine k_iconst (v := 1) X dL_law_k14.1.1.2.2 ic_1 ?_
  refine k_iadd X dL_law_k14.1.2.1.1 ?_
  refine k_nm (fun z_1 ez_1 => ?_)
  have i_2 : z_1.toInt = u4.toInt + 1 := in_add ez_1 hiv iq_1_1_1 (zle_e rfl) (zle_e rfl)
  have iv_3 : IV z_1 1 3067 := by have := hiv; have := iq_1_1_1; rw [IV, i_2]; omega
  refine k_sld X hX hbl hbA dL_law_k14.1.2.1.2 (by rw [vp_in_iff]; have := iv_3; omega) ?_
  refine k_nm (fun a_4 ea_4 => ?_)
  refine lx_thread (st := []) a_4 X hx dL_law_k14.1.2.2.1 mw727 (Nat.le_of_ble_eq_true rfl) (Nat.le_of_ble_eq_true rfl) (Nat.le_of_ble_eq_true rfl) (Nat.le_trans h1 (Nat.le_of_ble_eq_true rfl)) (Nat.le_trans h2 (Nat.le_of_ble_eq_true rfl)) (fun r_5 xw_6 hx_7 => ?_)
  refine k_pop X dL_law_k14.1.2.2.2 rfl ?_
  refine k_aload_n X dL_law_k14.2.1.1.1 2 rfl ?_
  refine k_aload_n X dL_law_k14.2.1.1.2 4 rfl ?_
  refine k_iload X dL_law_k14.2.1.2.1 0 rfl ?_
  refine k_iconst (v := 1) X dL_law_k14.2.1.2.2 ic_1 ?_
  refine k_iadd X dL_law_k14.2.2.1.1 ?_
  refine k_to z_1 ez_1.symm ?_
  refine k_sld X hX hbl hbA dL_law_k14.2.2.1.2 (by rw [vp_in_iff]; have := iv_3; omega) ?_
  refine k_to a_4 ea_4.symm ?_
  refine lm_thread (st := []) a_4 X hm dL_law_k14.2.2.2.1 mw731 (Nat.le_of_ble_eq_true rfl) (Nat.le_of_ble_eq_true rfl) (Nat.le_of_ble_eq_true rfl) (Nat.le_trans h1 (Nat.le_of_ble_eq_true rfl)) (Nat.le_trans h2 (Nat.le_of_ble_eq_true rfl)) (fun r_8 mw_9 hm_10 => ?_)
  refine k_pop X dL_law_k14.2.2.2.2 rfl ?_
  refine k_goto 2062 X dL_law_k15 (jp_e rfl) ?_
  exact kk _ _ _ _ _ _ _ _ _ _ _ _ _ _ _ _ _ _ _ _ _ _ _ _ _ _ _ _ _ _ _ _ _ _ _ _ _ _ _ _ hx_7 hm_10 hR

theorem dL_law_k16 : ((((dD cL_law 524 (.aload_n 1) 1 ∧ dD cL_law 525 (.aload_n 0) 1) ∧ (dD cL_law 526 (.iload 4) 2 ∧ dD cL_law 528 (.iconst 1) 1)) ∧ ((dD cL_law 529 .iadd 1 ∧ dD cL_law 530 .iaload 1) ∧ (dD cL_law 531 (.aload_n 0) 1 ∧ dD cL_law 532 (.iload 4) 2))) ∧ (((dD cL_law 534 (.iconst 2) 1 ∧ dD cL_law 535 .iadd 1) ∧ (dD cL_law 536 .iaload 1 ∧ dD cL_law 537 (.invokevirtual 54) 3)) ∧ ((dD cL_law 540 .pop 1 ∧ dD cL_law 541 (.aload_n 2) 1) ∧ (dD cL_law 542 (.aload_n 0) 1 ∧ dD cL_law 543 (.iload 4) 2)))) := dkA16 (by decide +kernel)
theorem dL_law_k17 : (((dD cL_law 545 (.iconst 1) 1 ∧ dD cL_law 546 .iadd 1) ∧ (dD cL_law 547 .iaload 1 ∧ (dD cL_law 548 (.aload_n 0) 1 ∧ dD cL_law 549 (.iload 4) 2))) ∧ ((dD cL_law 551 (.iconst 2) 1 ∧ (dD cL_law 552 .iadd 1 ∧ dD cL_law 553 .iaload 1)) ∧ (dD cL_law 554 (.invokevirtual 57) 3 ∧ (dD cL_law 557 .pop 1 ∧ dD cL_law 558 (.goto 1504) 3)))) := dkA11 (by decide +kernel)
set_option maxHeartbeats 4000000 in
set_option maxRecDepth 100000 in
theorem law_c8 {p : Program} {l : Launch} {e : Env} {s : State} {m : MethodId} {below : List Frame} {meth : Method} {c : Code} {A : Nat → Prop} {g : Gx} {b L : Nat} {xs : Nat → Int32} {h0 mo lo n1 n2 : Nat} {fo : Nat → Int64} {u4 : Int32} {xtpd : Int32} {tpf : Nat → Int32} {yhnf : Nat → Int32} {yhtn : Int32} {yhtf : Nat → Int32} {yhjn : Int32} {yhjf : Nat → Int32} {yhmn : Int32} {yhmf : Nat → Int32} {yhbn : Int32} {yhbf : Nat → Int32} {yhsn : Int32} {yhsf : Nat → Int32} {yhcn : Int32} {yhcf : Nat → Int32} {zrn : Int32} {zmn : Int32} {zwn : Int32} {zpn : Int32} {zmd : Int32} {ztr : Int32} {zrf : Nat → Int32} {zmf : Nat → Int32} {zwf : Nat → Int32} {zpf : Nat → Int32} {kac : Int32} {knx : Int32} {kim : Int32} {cf : Nat → SC} {m_taped : Int32} {d_tape : Nat → Int32} {d_r : Nat → Int32} {d_st : Nat → Int32} {d_undone : Nat → Int32} {d_kept : Nat → Int32} {m_undos : Int32} {m_images : Int32} {m_hasHouse : Int32} {xw mw : va_W} (X : Cx p s m meth c #[Value.ref b] cL_law 7 RL A g) (hX : va_X b L xs s s.heap) (hbl : b < s.heap.size) (hbA : ¬ A b) (hi : 0 ≤ u4.toInt ∧ u4.toInt + 6 ≤ (L : Int)) (hL : L ≤ 3072) (h1 : n1 ≤ 601023) (h2 : n2 ≤ 7293028) (hlt : l.stackTraces = false) (hZ : kZ A s s.heap) (htsE : ∀ w ∈ wsE, w.before #[Value.ref b] s = true) (hx : XW g h0 xtpd tpf yhnf yhtn yhtf yhjn yhjf yhmn yhmf yhbn yhbf yhsn yhsf yhcn yhcf zrn zmn zwn zpn zmd ztr zrf zmf zwf zpf kac knx kim cf xw) (hm : MW g mo m_taped d_tape d_r d_st d_undone d_kept m_undos m_images m_hasHouse mw) (hR : LR xtpd tpf yhnf yhtn yhtf yhjn yhjf yhmn yhmf yhbn yhbf yhsn yhsf yhcn yhcf zrn zmn zwn zpn zmd ztr zrf zmf zwf zpf kac knx kim cf m_taped d_tape d_r d_st d_undone d_kept m_undos m_images m_hasHouse) (kk : ∀ (xtpd_2 : Int32) (tpf_2 : Nat → Int32) (yhnf_2 : Nat → Int32) (yhtn_2 : Int32) (yhtf_2 : Nat → Int32) (yhjn_2 : Int32) (yhjf_2 : Nat → Int32) (yhmn_2 : Int32) (yhmf_2 : Nat → Int32) (yhbn_2 : Int32) (yhbf_2 : Nat → Int32) (yhsn_2 : Int32) (yhsf_2 : Nat → Int32) (yhcn_2 : Int32) (yhcf_2 : Nat → Int32) (zrn_2 : Int32) (zmn_2 : Int32) (zwn_2 : Int32) (zpn_2 : Int32) (zmd_2 : Int32) (ztr_2 : Int32) (zrf_2 : Nat → Int32) (zmf_2 : Nat → Int32) (zwf_2 : Nat → Int32) (zpf_2 : Nat → Int32) (kac_2 : Int32) (knx_2 : Int32) (kim_2 : Int32) (cf_2 : Nat → SC) (m_taped_2 : Int32) (d_tape_2 : Nat → Int32) (d_r_2 : Nat → Int32) (d_st_2 : Nat → Int32) (d_undone_2 : Nat → Int32) (d_kept_2 : Nat → Int32) (m_undos_2 : Int32) (m_images_2 : Int32) (m_hasHouse_2 : Int32) (xw2 mw2 : va_W), XW g h0 xtpd_2 tpf_2 yhnf_2 yhtn_2 yhtf_2 yhjn_2 yhjf_2 yhmn_2 yhmf_2 yhbn_2 yhbf_2 yhsn_2 yhsf_2 yhcn_2 yhcf_2 zrn_2 zmn_2 zwn_2 zpn_2 zmd_2 ztr_2 zrf_2 zmf_2 zwf_2 zpf_2 kac_2 knx_2 kim_2 cf_2 xw2 → MW g mo m_taped_2 d_tape_2 d_r_2 d_st_2 d_undone_2 d_kept_2 m_undos_2 m_images_2 m_hasHouse_2 mw2 → LR xtpd_2 tpf_2 yhnf_2 yhtn_2 yhtf_2 yhjn_2 yhjf_2 yhmn_2 yhmf_2 yhbn_2 yhbf_2 yhsn_2 yhsf_2 yhcn_2 yhcf_2 zrn_2 zmn_2 zwn_2 zpn_2 zmd_2 ztr_2 zrf_2 zmf_2 zwf_2 zpf_2 kac_2 knx_2 kim_2 cf_2 m_taped_2 d_tape_2 d_r_2 d_st_2 d_undone_2 d_kept_2 m_undos_2 m_images_2 m_hasHouse_2 → Wk p l e room_1 s m #[Value.ref b] below meth c (lw_Z below #[Value.ref b] s) A g 7 n1 n2 (xw2 ++ (mw2 ++ [(cAJ g lo 1 fo)])) [(4, .int u4), (3, .ref lo), (2, .ref mo), (1, .ref h0), (0, .ref b)] 2062 []) : Wk p l e room_1 s m #[Value.ref b] below meth c (lw_Z below #[Value.ref b] s) A g 7 n1 n2 (xw ++ (mw ++ [(cAJ g lo 1 fo)])) [(4, .int u4), (3, .ref lo), (2, .ref mo), (1, .ref h0), (0, .ref b)] 524 [] := by
  have hiv : IV u4 0 3066 := ⟨hi.1, by omega⟩
  refine k_aload_n X dL_law_k16.1.1.1.1 3 rfl ?_
  refine k_aload_n X dL_law_k16.1.1.1.2 4 rfl ?_
  refine k_iload X dL_law_k16.1.1.2.1 0 rfl ?_
  refine k_iconst (v := 1) X dL_law_k16.1.1.2.2 ic_1 ?_
  refine k_iadd X dL_law_k16.1.2.1.1 ?_
  refine k_nm (fun z_1 ez_1 => ?_)
  have i_2 : z_1.toInt = u4.toInt + 1 := in_add ez_1 hiv iq_1_1_1 (zle_e rfl) (zle_e rfl)
  have iv_3 : IV z_1 1 3067 := by have := hiv; have := iq_1_1_1; rw [IV, i_2]; omega
  refine k_sld X hX hbl hbA dL_law_k16.1.2.1.2 (by rw [vp_in_iff]; have := iv_3; omega) ?_
  refine k_nm (fun a_4 ea_4 => ?_)
  refine k_aload_n X dL_law_k16.1.2.2.1 4 rfl ?_
  refine k_iload X dL_law_k16.1.2.2.2 0 rfl ?_
  refine k_iconst (v := 2) X dL_law_k16.2.1.1.1 ic_2 ?_
  refine k_iadd X dL_law_k16.2.1.1.2 ?_
  refine k_nm (fun z_5 ez_5 => ?_)
  have i_6 : z_5.toInt = u4.toInt + 2 := in_add ez_5 hiv iq_2_2_2 (zle_e rfl) (zle_e rfl)
  have iv_7 : IV z_5 2 3068 := by have := hiv; have := iq_2_2_2; rw [IV, i_6]; omega
  refine k_sld X hX hbl hbA dL_law_k16.2.1.2.1 (by rw [vp_in_iff]; have := iv_7; omega) ?_
  refine k_nm (fun a_8 ea_8 => ?_)
  refine lx_believes (st := []) a_4 a_8 X hx dL_law_k16.2.1.2.2 mw735 (Nat.le_of_ble_eq_true rfl) (Nat.le_of_ble_eq_true rfl) (Nat.le_of_ble_eq_true rfl) (Nat.le_trans h1 (Nat.le_of_ble_eq_true rfl)) (Nat.le_trans h2 (Nat.le_of_ble_eq_true rfl)) (fun r_9 xw_10 hx_11 => ?_)
  refine k_pop X dL_law_k16.2.2.1.1 rfl ?_
  refine k_aload_n X dL_law_k16.2.2.1.2 2 rfl ?_
  refine k_aload_n X dL_law_k16.2.2.2.1 4 rfl ?_
  refine k_iload X dL_law_k16.2.2.2.2 0 rfl ?_
  refine k_iconst (v := 1) X dL_law_k17.1.1.1 ic_1 ?_
  refine k_iadd X dL_law_k17.1.1.2 ?_
  refine k_to z_1 ez_1.symm ?_
  refine k_sld X hX hbl hbA dL_law_k17.1.2.1 (by rw [vp_in_iff]; have := iv_3; omega) ?_
  refine k_to a_4 ea_4.symm ?_
  refine k_aload_n X dL_law_k17.1.2.2.1 4 rfl ?_
  refine k_iload X dL_law_k17.1.2.2.2 0 rfl ?_
  refine k_iconst (v := 2) X dL_law_k17.2.1.1 ic_2 ?_
  refine k_iadd X dL_law_k17.2.1.2.1 ?_
  refine k_to z_5 ez_5.symm ?_
  refine k_sld X hX hbl hbA dL_law_k17.2.1.2.2 (by rw [vp_in_iff]; have := iv_7; omega) ?_
  refine k_to a_8 ea_8.symm ?_
  refine lm_believes (st := []) a_4 a_8 X hm dL_law_k17.2.2.1 mw803 (Nat.le_of_ble_eq_true rfl) (Nat.le_of_ble_eq_true rfl) (Nat.le_of_ble_eq_true rfl) (Nat.le_trans h1 (Nat.le_of_ble_eq_true rfl)) (Nat.le_trans h2 (Nat.le_of_ble_eq_true rfl)) (fun r_12 mw_13 hm_14 => ?_)
  refine k_pop X dL_law_k17.2.2.2.1 rfl ?_
  refine k_goto 2062 X dL_law_k17.2.2.2.2 (jp_e rfl) ?_
  exact kk _ _ _ _ _ _ _ _ _ _ _ _ _ _ _ _ _ _ _ _ _ _ _ _ _ _ _ _ _ _ _ _ _ _ _ _ _ _ _ _ hx_11 hm_14 hR

theorem dL_law_k18 : ((((dD cL_law 561 (.aload_n 1) 1 ∧ dD cL_law 562 (.aload_n 0) 1) ∧ (dD cL_law 563 (.iload 4) 2 ∧ dD cL_law 565 (.iconst 1) 1)) ∧ ((dD cL_law 566 .iadd 1 ∧ dD cL_law 567 .iaload 1) ∧ (dD cL_law 568 (.aload_n 0) 1 ∧ dD cL_law 569 (.iload 4) 2))) ∧ (((dD cL_law 571 (.iconst 2) 1 ∧ dD cL_law 572 .iadd 1) ∧ (dD cL_law 573 .iaload 1 ∧ dD cL_law 574 (.invokevirtual 58) 3)) ∧ ((dD cL_law 577 .pop 1 ∧ dD cL_law 578 (.aload_n 2) 1) ∧ (dD cL_law 579 (.aload_n 0) 1 ∧ dD cL_law 580 (.iload 4) 2)))) := dkA16 (by decide +kernel)
theorem dL_law_k19 : (((dD cL_law 582 (.iconst 1) 1 ∧ dD cL_law 583 .iadd 1) ∧ (dD cL_law 584 .iaload 1 ∧ (dD cL_law 585 (.aload_n 0) 1 ∧ dD cL_law 586 (.iload 4) 2))) ∧ ((dD cL_law 588 (.iconst 2) 1 ∧ (dD cL_law 589 .iadd 1 ∧ dD cL_law 590 .iaload 1)) ∧ (dD cL_law 591 (.invokevirtual 61) 3 ∧ (dD cL_law 594 .pop 1 ∧ dD cL_law 595 (.goto 1467) 3)))) := dkA11 (by decide +kernel)
set_option maxHeartbeats 4000000 in
set_option maxRecDepth 100000 in
theorem law_c9 {p : Program} {l : Launch} {e : Env} {s : State} {m : MethodId} {below : List Frame} {meth : Method} {c : Code} {A : Nat → Prop} {g : Gx} {b L : Nat} {xs : Nat → Int32} {h0 mo lo n1 n2 : Nat} {fo : Nat → Int64} {u4 : Int32} {xtpd : Int32} {tpf : Nat → Int32} {yhnf : Nat → Int32} {yhtn : Int32} {yhtf : Nat → Int32} {yhjn : Int32} {yhjf : Nat → Int32} {yhmn : Int32} {yhmf : Nat → Int32} {yhbn : Int32} {yhbf : Nat → Int32} {yhsn : Int32} {yhsf : Nat → Int32} {yhcn : Int32} {yhcf : Nat → Int32} {zrn : Int32} {zmn : Int32} {zwn : Int32} {zpn : Int32} {zmd : Int32} {ztr : Int32} {zrf : Nat → Int32} {zmf : Nat → Int32} {zwf : Nat → Int32} {zpf : Nat → Int32} {kac : Int32} {knx : Int32} {kim : Int32} {cf : Nat → SC} {m_taped : Int32} {d_tape : Nat → Int32} {d_r : Nat → Int32} {d_st : Nat → Int32} {d_undone : Nat → Int32} {d_kept : Nat → Int32} {m_undos : Int32} {m_images : Int32} {m_hasHouse : Int32} {xw mw : va_W} (X : Cx p s m meth c #[Value.ref b] cL_law 7 RL A g) (hX : va_X b L xs s s.heap) (hbl : b < s.heap.size) (hbA : ¬ A b) (hi : 0 ≤ u4.toInt ∧ u4.toInt + 6 ≤ (L : Int)) (hL : L ≤ 3072) (h1 : n1 ≤ 601023) (h2 : n2 ≤ 7293028) (hlt : l.stackTraces = false) (hZ : kZ A s s.heap) (htsE : ∀ w ∈ wsE, w.before #[Value.ref b] s = true) (hx : XW g h0 xtpd tpf yhnf yhtn yhtf yhjn yhjf yhmn yhmf yhbn yhbf yhsn yhsf yhcn yhcf zrn zmn zwn zpn zmd ztr zrf zmf zwf zpf kac knx kim cf xw) (hm : MW g mo m_taped d_tape d_r d_st d_undone d_kept m_undos m_images m_hasHouse mw) (hR : LR xtpd tpf yhnf yhtn yhtf yhjn yhjf yhmn yhmf yhbn yhbf yhsn yhsf yhcn yhcf zrn zmn zwn zpn zmd ztr zrf zmf zwf zpf kac knx kim cf m_taped d_tape d_r d_st d_undone d_kept m_undos m_images m_hasHouse) (kk : ∀ (xtpd_2 : Int32) (tpf_2 : Nat → Int32) (yhnf_2 : Nat → Int32) (yhtn_2 : Int32) (yhtf_2 : Nat → Int32) (yhjn_2 : Int32) (yhjf_2 : Nat → Int32) (yhmn_2 : Int32) (yhmf_2 : Nat → Int32) (yhbn_2 : Int32) (yhbf_2 : Nat → Int32) (yhsn_2 : Int32) (yhsf_2 : Nat → Int32) (yhcn_2 : Int32) (yhcf_2 : Nat → Int32) (zrn_2 : Int32) (zmn_2 : Int32) (zwn_2 : Int32) (zpn_2 : Int32) (zmd_2 : Int32) (ztr_2 : Int32) (zrf_2 : Nat → Int32) (zmf_2 : Nat → Int32) (zwf_2 : Nat → Int32) (zpf_2 : Nat → Int32) (kac_2 : Int32) (knx_2 : Int32) (kim_2 : Int32) (cf_2 : Nat → SC) (m_taped_2 : Int32) (d_tape_2 : Nat → Int32) (d_r_2 : Nat → Int32) (d_st_2 : Nat → Int32) (d_undone_2 : Nat → Int32) (d_kept_2 : Nat → Int32) (m_undos_2 : Int32) (m_images_2 : Int32) (m_hasHouse_2 : Int32) (xw2 mw2 : va_W), XW g h0 xtpd_2 tpf_2 yhnf_2 yhtn_2 yhtf_2 yhjn_2 yhjf_2 yhmn_2 yhmf_2 yhbn_2 yhbf_2 yhsn_2 yhsf_2 yhcn_2 yhcf_2 zrn_2 zmn_2 zwn_2 zpn_2 zmd_2 ztr_2 zrf_2 zmf_2 zwf_2 zpf_2 kac_2 knx_2 kim_2 cf_2 xw2 → MW g mo m_taped_2 d_tape_2 d_r_2 d_st_2 d_undone_2 d_kept_2 m_undos_2 m_images_2 m_hasHouse_2 mw2 → LR xtpd_2 tpf_2 yhnf_2 yhtn_2 yhtf_2 yhjn_2 yhjf_2 yhmn_2 yhmf_2 yhbn_2 yhbf_2 yhsn_2 yhsf_2 yhcn_2 yhcf_2 zrn_2 zmn_2 zwn_2 zpn_2 zmd_2 ztr_2 zrf_2 zmf_2 zwf_2 zpf_2 kac_2 knx_2 kim_2 cf_2 m_taped_2 d_tape_2 d_r_2 d_st_2 d_undone_2 d_kept_2 m_undos_2 m_images_2 m_hasHouse_2 → Wk p l e room_1 s m #[Value.ref b] below meth c (lw_Z below #[Value.ref b] s) A g 7 n1 n2 (xw2 ++ (mw2 ++ [(cAJ g lo 1 fo)])) [(4, .int u4), (3, .ref lo), (2, .ref mo), (1, .ref h0), (0, .ref b)] 2062 []) : Wk p l e room_1 s m #[Value.ref b] below meth c (lw_Z below #[Value.ref b] s) A g 7 n1 n2 (xw ++ (mw ++ [(cAJ g lo 1 fo)])) [(4, .int u4), (3, .ref lo), (2, .ref mo), (1, .ref h0), (0, .ref b)] 561 [] := by
  have hiv : IV u4 0 3066 := ⟨hi.1, by omega⟩
  refine k_aload_n X dL_law_k18.1.1.1.1 3 rfl ?_
  refine k_aload_n X dL_law_k18.1.1.1.2 4 rfl ?_
  refine k_iload X dL_law_k18.1.1.2.1 0 rfl ?_
  refine k_iconst (v := 1) X dL_law_k18.1.1.2.2 ic_1 ?_
  refine k_iadd X dL_law_k18.1.2.1.1 ?_
  refine k_nm (fun z_1 ez_1 => ?_)
  have i_2 : z_1.toInt = u4.toInt + 1 := in_add ez_1 hiv iq_1_1_1 (zle_e rfl) (zle_e rfl)
  have iv_3 : IV z_1 1 3067 := by have := hiv; have := iq_1_1_1; rw [IV, i_2]; omega
  refine k_sld X hX hbl hbA dL_law_k18.1.2.1.2 (by rw [vp_in_iff]; have := iv_3; omega) ?_
  refine k_nm (fun a_4 ea_4 => ?_)
  refine k_aload_n X dL_law_k18.1.2.2.1 4 rfl ?_
  refine k_iload X dL_law_k18.1.2.2.2 0 rfl ?_
  refine k_iconst (v := 2) X dL_law_k18.2.1.1.1 ic_2 ?_
  refine k_iadd X dL_law_k18.2.1.1.2 ?_
  refine k_nm (fun z_5 ez_5 => ?_)
  have i_6 : z_5.toInt = u4.toInt + 2 := in_add ez_5 hiv iq_2_2_2 (zle_e rfl) (zle_e rfl)
  have iv_7 : IV z_5 2 3068 := by have := hiv; have := iq_2_2_2; rw [IV, i_6]; omega
  refine k_sld X hX hbl hbA dL_law_k18.2.1.2.1 (by rw [vp_in_iff]; have := iv_7; omega) ?_
  refine k_nm (fun a_8 ea_8 => ?_)
  refine lx_starts (st := []) a_4 a_8 X hx dL_law_k18.2.1.2.2 mw845 (Nat.le_of_ble_eq_true rfl) (Nat.le_of_ble_eq_true rfl) (Nat.le_of_ble_eq_true rfl) (Nat.le_trans h1 (Nat.le_of_ble_eq_true rfl)) (Nat.le_trans h2 (Nat.le_of_ble_eq_true rfl)) (fun r_9 xw_10 hx_11 => ?_)
  refine k_pop X dL_law_k18.2.2.1.1 rfl ?_
  refine k_aload_n X dL_law_k18.2.2.1.2 2 rfl ?_
  refine k_aload_n X dL_law_k18.2.2.2.1 4 rfl ?_
  refine k_iload X dL_law_k18.2.2.2.2 0 rfl ?_
  refine k_iconst (v := 1) X dL_law_k19.1.1.1 ic_1 ?_
  refine k_iadd X dL_law_k19.1.1.2 ?_
  refine k_to z_1 ez_1.symm ?_
  refine k_sld X hX hbl hbA dL_law_k19.1.2.1 (by rw [vp_in_iff]; have := iv_3; omega) ?_
  refine k_to a_4 ea_4.symm ?_
  refine k_aload_n X dL_law_k19.1.2.2.1 4 rfl ?_
  refine k_iload X dL_law_k19.1.2.2.2 0 rfl ?_
  refine k_iconst (v := 2) X dL_law_k19.2.1.1 ic_2 ?_
  refine k_iadd X dL_law_k19.2.1.2.1 ?_
  refine k_to z_5 ez_5.symm ?_
  refine k_sld X hX hbl hbA dL_law_k19.2.1.2.2 (by rw [vp_in_iff]; have := iv_7; omega) ?_
  refine k_to a_8 ea_8.symm ?_
  refine lm_starts (st := []) a_4 a_8 X hm dL_law_k19.2.2.1 mw849 (Nat.le_of_ble_eq_true rfl) (Nat.le_of_ble_eq_true rfl) (Nat.le_of_ble_eq_true rfl) (Nat.le_trans h1 (Nat.le_of_ble_eq_true rfl)) (Nat.le_trans h2 (Nat.le_of_ble_eq_true rfl)) (fun r_12 mw_13 hm_14 => ?_)
  refine k_pop X dL_law_k19.2.2.2.1 rfl ?_
  refine k_goto 2062 X dL_law_k19.2.2.2.2 (jp_e rfl) ?_
  exact kk _ _ _ _ _ _ _ _ _ _ _ _ _ _ _ _ _ _ _ _ _ _ _ _ _ _ _ _ _ _ _ _ _ _ _ _ _ _ _ _ hx_11 hm_14 hR

theorem dL_law_k20 : ((((dD cL_law 598 (.aload_n 1) 1 ∧ dD cL_law 599 (.aload_n 0) 1) ∧ (dD cL_law 600 (.iload 4) 2 ∧ dD cL_law 602 (.iconst 1) 1)) ∧ ((dD cL_law 603 .iadd 1 ∧ dD cL_law 604 .iaload 1) ∧ (dD cL_law 605 (.aload_n 0) 1 ∧ dD cL_law 606 (.iload 4) 2))) ∧ (((dD cL_law 608 (.iconst 2) 1 ∧ dD cL_law 609 .iadd 1) ∧ (dD cL_law 610 .iaload 1 ∧ dD cL_law 611 (.invokevirtual 62) 3)) ∧ ((dD cL_law 614 (.aload_n 2) 1 ∧ dD cL_law 615 (.aload_n 0) 1) ∧ (dD cL_law 616 (.iload 4) 2 ∧ dD cL_law 618 (.iconst 1) 1)))) := dkA16 (by decide +kernel)
theorem dL_law_k21 : (((dD cL_law 619 .iadd 1 ∧ dD cL_law 620 .iaload 1) ∧ (dD cL_law 621 (.aload_n 0) 1 ∧ dD cL_law 622 (.iload 4) 2)) ∧ ((dD cL_law 624 (.iconst 2) 1 ∧ dD cL_law 625 .iadd 1) ∧ (dD cL_law 626 .iaload 1 ∧ (dD cL_law 627 (.invokevirtual 65) 3 ∧ dD cL_law 630 (.if_icmp .eq 1432) 3)))) := dkA9 (by decide +kernel)
set_option maxHeartbeats 4000000 in
set_option maxRecDepth 100000 in
theorem law_c10 {p : Program} {l : Launch} {e : Env} {s : State} {m : MethodId} {below : List Frame} {meth : Method} {c : Code} {A : Nat → Prop} {g : Gx} {b L : Nat} {xs : Nat → Int32} {h0 mo lo n1 n2 : Nat} {fo : Nat → Int64} {u4 : Int32} {xtpd : Int32} {tpf : Nat → Int32} {yhnf : Nat → Int32} {yhtn : Int32} {yhtf : Nat → Int32} {yhjn : Int32} {yhjf : Nat → Int32} {yhmn : Int32} {yhmf : Nat → Int32} {yhbn : Int32} {yhbf : Nat → Int32} {yhsn : Int32} {yhsf : Nat → Int32} {yhcn : Int32} {yhcf : Nat → Int32} {zrn : Int32} {zmn : Int32} {zwn : Int32} {zpn : Int32} {zmd : Int32} {ztr : Int32} {zrf : Nat → Int32} {zmf : Nat → Int32} {zwf : Nat → Int32} {zpf : Nat → Int32} {kac : Int32} {knx : Int32} {kim : Int32} {cf : Nat → SC} {m_taped : Int32} {d_tape : Nat → Int32} {d_r : Nat → Int32} {d_st : Nat → Int32} {d_undone : Nat → Int32} {d_kept : Nat → Int32} {m_undos : Int32} {m_images : Int32} {m_hasHouse : Int32} {xw mw : va_W} (X : Cx p s m meth c #[Value.ref b] cL_law 7 RL A g) (hX : va_X b L xs s s.heap) (hbl : b < s.heap.size) (hbA : ¬ A b) (hi : 0 ≤ u4.toInt ∧ u4.toInt + 6 ≤ (L : Int)) (hL : L ≤ 3072) (h1 : n1 ≤ 601023) (h2 : n2 ≤ 7293028) (hlt : l.stackTraces = false) (hZ : kZ A s s.heap) (htsE : ∀ w ∈ wsE, w.before #[Value.ref b] s = true) (hx : XW g h0 xtpd tpf yhnf yhtn yhtf yhjn yhjf yhmn yhmf yhbn yhbf yhsn yhsf yhcn yhcf zrn zmn zwn zpn zmd ztr zrf zmf zwf zpf kac knx kim cf xw) (hm : MW g mo m_taped d_tape d_r d_st d_undone d_kept m_undos m_images m_hasHouse mw) (hR : LR xtpd tpf yhnf yhtn yhtf yhjn yhjf yhmn yhmf yhbn yhbf yhsn yhsf yhcn yhcf zrn zmn zwn zpn zmd ztr zrf zmf zwf zpf kac knx kim cf m_taped d_tape d_r d_st d_undone d_kept m_undos m_images m_hasHouse) (kk : ∀ (xtpd_2 : Int32) (tpf_2 : Nat → Int32) (yhnf_2 : Nat → Int32) (yhtn_2 : Int32) (yhtf_2 : Nat → Int32) (yhjn_2 : Int32) (yhjf_2 : Nat → Int32) (yhmn_2 : Int32) (yhmf_2 : Nat → Int32) (yhbn_2 : Int32) (yhbf_2 : Nat → Int32) (yhsn_2 : Int32) (yhsf_2 : Nat → Int32) (yhcn_2 : Int32) (yhcf_2 : Nat → Int32) (zrn_2 : Int32) (zmn_2 : Int32) (zwn_2 : Int32) (zpn_2 : Int32) (zmd_2 : Int32) (ztr_2 : Int32) (zrf_2 : Nat → Int32) (zmf_2 : Nat → Int32) (zwf_2 : Nat → Int32) (zpf_2 : Nat → Int32) (kac_2 : Int32) (knx_2 : Int32) (kim_2 : Int32) (cf_2 : Nat → SC) (m_taped_2 : Int32) (d_tape_2 : Nat → Int32) (d_r_2 : Nat → Int32) (d_st_2 : Nat → Int32) (d_undone_2 : Nat → Int32) (d_kept_2 : Nat → Int32) (m_undos_2 : Int32) (m_images_2 : Int32) (m_hasHouse_2 : Int32) (xw2 mw2 : va_W), XW g h0 xtpd_2 tpf_2 yhnf_2 yhtn_2 yhtf_2 yhjn_2 yhjf_2 yhmn_2 yhmf_2 yhbn_2 yhbf_2 yhsn_2 yhsf_2 yhcn_2 yhcf_2 zrn_2 zmn_2 zwn_2 zpn_2 zmd_2 ztr_2 zrf_2 zmf_2 zwf_2 zpf_2 kac_2 knx_2 kim_2 cf_2 xw2 → MW g mo m_taped_2 d_tape_2 d_r_2 d_st_2 d_undone_2 d_kept_2 m_undos_2 m_images_2 m_hasHouse_2 mw2 → LR xtpd_2 tpf_2 yhnf_2 yhtn_2 yhtf_2 yhjn_2 yhjf_2 yhmn_2 yhmf_2 yhbn_2 yhbf_2 yhsn_2 yhsf_2 yhcn_2 yhcf_2 zrn_2 zmn_2 zwn_2 zpn_2 zmd_2 ztr_2 zrf_2 zmf_2 zwf_2 zpf_2 kac_2 knx_2 kim_2 cf_2 m_taped_2 d_tape_2 d_r_2 d_st_2 d_undone_2 d_kept_2 m_undos_2 m_images_2 m_hasHouse_2 → Wk p l e room_1 s m #[Value.ref b] below meth c (lw_Z below #[Value.ref b] s) A g 7 n1 n2 (xw2 ++ (mw2 ++ [(cAJ g lo 1 fo)])) [(4, .int u4), (3, .ref lo), (2, .ref mo), (1, .ref h0), (0, .ref b)] 2062 []) : Wk p l e room_1 s m #[Value.ref b] below meth c (lw_Z below #[Value.ref b] s) A g 7 n1 n2 (xw ++ (mw ++ [(cAJ g lo 1 fo)])) [(4, .int u4), (3, .ref lo), (2, .ref mo), (1, .ref h0), (0, .ref b)] 598 [] := by
  have hiv : IV u4 0 3066 := ⟨hi.1, by omega⟩
  refine k_aload_n X dL_law_k20.1.1.1.1 3 rfl ?_
  refine k_aload_n X dL_law_k20.1.1.1.2 4 rfl ?_
  refine k_iload X dL_law_k20.1.1.2.1 0 rfl ?_
  refine k_iconst (v := 1) X dL_law_k20.1.1.2.2 ic_1 ?_
  refine k_iadd X dL_law_k20.1.2.1.1 ?_
  refine k_nm (fun z_1 ez_1 => ?_)
  have i_2 : z_1.toInt = u4.toInt + 1 := in_add ez_1 hiv iq_1_1_1 (zle_e rfl) (zle_e rfl)
  have iv_3 : IV z_1 1 3067 := by have := hiv; have := iq_1_1_1; rw [IV, i_2]; omega
  refine k_sld X hX hbl hbA dL_law_k20.1.2.1.2 (by rw [vp_in_iff]; have := iv_3; omega) ?_
  refine k_nm (fun a_4 ea_4 => ?_)
  refine k_aload_n X dL_law_k20.1.2.2.1 4 rfl ?_
  refine k_iload X dL_law_k20.1.2.2.2 0 rfl ?_
  refine k_iconst (v := 2) X dL_law_k20.2.1.1.1 ic_2 ?_
  refine k_iadd X dL_law_k20.2.1.1.2 ?_
  refine k_nm (fun z_5 ez_5 => ?_)
  have i_6 : z_5.toInt = u4.toInt + 2 := in_add ez_5 hiv iq_2_2_2 (zle_e rfl) (zle_e rfl)
  have iv_7 : IV z_5 2 3068 := by have := hiv; have := iq_2_2_2; rw [IV, i_6]; omega
  refine k_sld X hX hbl hbA dL_law_k20.2.1.2.1 (by rw [vp_in_iff]; have := iv_7; omega) ?_
  refine k_nm (fun a_8 ea_8 => ?_)
  refine lx_changes (st := []) a_4 a_8 X hx dL_law_k20.2.1.2.2 mw853 (Nat.le_of_ble_eq_true rfl) (Nat.le_of_ble_eq_true rfl) (Nat.le_of_ble_eq_true rfl) (Nat.le_trans h1 (Nat.le_of_ble_eq_true rfl)) (Nat.le_trans h2 (Nat.le_of_ble_eq_true rfl)) (fun r_9  xw_10 hx_11 hr_12 => ?_)
  refine k_aload_n X dL_law_k20.2.2.1.1 2 rfl ?_
  refine k_aload_n X dL_law_k20.2.2.1.2 4 rfl ?_
  refine k_iload X dL_law_k20.2.2.2.1 0 rfl ?_
  refine k_iconst (v := 1) X dL_law_k20.2.2.2.2 ic_1 ?_
  refine k_iadd X dL_law_k21.1.1.1 ?_
  refine k_to z_1 ez_1.symm ?_
  refine k_sld X hX hbl hbA dL_law_k21.1.1.2 (by rw [vp_in_iff]; have := iv_3; omega) ?_
  refine k_to a_4 ea_4.symm ?_
  refine k_aload_n X dL_law_k21.1.2.1 4 rfl ?_
  refine k_iload X dL_law_k21.1.2.2 0 rfl ?_
  refine k_iconst (v := 2) X dL_law_k21.2.1.1 ic_2 ?_
  refine k_iadd X dL_law_k21.2.1.2 ?_
  refine k_to z_5 ez_5.symm ?_
  refine k_sld X hX hbl hbA dL_law_k21.2.2.1 (by rw [vp_in_iff]; have := iv_7; omega) ?_
  refine k_to a_8 ea_8.symm ?_
  refine lm_changes (st := [.int r_9]) a_4 a_8 X hm dL_law_k21.2.2.2.1 mw857 (Nat.le_of_ble_eq_true rfl) (Nat.le_of_ble_eq_true rfl) (Nat.le_of_ble_eq_true rfl) (Nat.le_trans h1 (Nat.le_of_ble_eq_true rfl)) (Nat.le_trans h2 (Nat.le_of_ble_eq_true rfl)) (fun r_13  mw_14 hm_15 hr_16 => ?_)
  refine k_ic_eq 2062 X dL_law_k21.2.2.2.2 (jp_e rfl) (fun h_17 => ?_) (fun h_17 => absurd (LR_changesA hR hr_12 hr_16) h_17)
  exact kk _ _ _ _ _ _ _ _ _ _ _ _ _ _ _ _ _ _ _ _ _ _ _ _ _ _ _ _ _ _ _ _ _ _ _ _ _ _ _ _ hx_11 hm_15 hR

theorem dL_law_k22 : ((((dD cL_law 635 (.aload_n 1) 1 ∧ dD cL_law 636 (.aload_n 0) 1) ∧ (dD cL_law 637 (.iload 4) 2 ∧ dD cL_law 639 (.iconst 1) 1)) ∧ ((dD cL_law 640 .iadd 1 ∧ dD cL_law 641 .iaload 1) ∧ (dD cL_law 642 (.aload_n 0) 1 ∧ dD cL_law 643 (.iload 4) 2))) ∧ (((dD cL_law 645 (.iconst 2) 1 ∧ dD cL_law 646 .iadd 1) ∧ (dD cL_law 647 .iaload 1 ∧ dD cL_law 648 (.invokevirtual 66) 3)) ∧ ((dD cL_law 651 .pop 1 ∧ dD cL_law 652 (.aload_n 2) 1) ∧ (dD cL_law 653 (.aload_n 0) 1 ∧ dD cL_law 654 (.iload 4) 2)))) := dkA16 (by decide +kernel)
theorem dL_law_k23 : (((dD cL_law 656 (.iconst 1) 1 ∧ dD cL_law 657 .iadd 1) ∧ (dD cL_law 658 .iaload 1 ∧ (dD cL_law 659 (.aload_n 0) 1 ∧ dD cL_law 660 (.iload 4) 2))) ∧ ((dD cL_law 662 (.iconst 2) 1 ∧ (dD cL_law 663 .iadd 1 ∧ dD cL_law 664 .iaload 1)) ∧ (dD cL_law 665 (.invokevirtual 69) 3 ∧ (dD cL_law 668 .pop 1 ∧ dD cL_law 669 (.goto 1393) 3)))) := dkA11 (by decide +kernel)
set_option maxHeartbeats 4000000 in
set_option maxRecDepth 100000 in
theorem law_c11 {p : Program} {l : Launch} {e : Env} {s : State} {m : MethodId} {below : List Frame} {meth : Method} {c : Code} {A : Nat → Prop} {g : Gx} {b L : Nat} {xs : Nat → Int32} {h0 mo lo n1 n2 : Nat} {fo : Nat → Int64} {u4 : Int32} {xtpd : Int32} {tpf : Nat → Int32} {yhnf : Nat → Int32} {yhtn : Int32} {yhtf : Nat → Int32} {yhjn : Int32} {yhjf : Nat → Int32} {yhmn : Int32} {yhmf : Nat → Int32} {yhbn : Int32} {yhbf : Nat → Int32} {yhsn : Int32} {yhsf : Nat → Int32} {yhcn : Int32} {yhcf : Nat → Int32} {zrn : Int32} {zmn : Int32} {zwn : Int32} {zpn : Int32} {zmd : Int32} {ztr : Int32} {zrf : Nat → Int32} {zmf : Nat → Int32} {zwf : Nat → Int32} {zpf : Nat → Int32} {kac : Int32} {knx : Int32} {kim : Int32} {cf : Nat → SC} {m_taped : Int32} {d_tape : Nat → Int32} {d_r : Nat → Int32} {d_st : Nat → Int32} {d_undone : Nat → Int32} {d_kept : Nat → Int32} {m_undos : Int32} {m_images : Int32} {m_hasHouse : Int32} {xw mw : va_W} (X : Cx p s m meth c #[Value.ref b] cL_law 7 RL A g) (hX : va_X b L xs s s.heap) (hbl : b < s.heap.size) (hbA : ¬ A b) (hi : 0 ≤ u4.toInt ∧ u4.toInt + 6 ≤ (L : Int)) (hL : L ≤ 3072) (h1 : n1 ≤ 601023) (h2 : n2 ≤ 7293028) (hlt : l.stackTraces = false) (hZ : kZ A s s.heap) (htsE : ∀ w ∈ wsE, w.before #[Value.ref b] s = true) (hx : XW g h0 xtpd tpf yhnf yhtn yhtf yhjn yhjf yhmn yhmf yhbn yhbf yhsn yhsf yhcn yhcf zrn zmn zwn zpn zmd ztr zrf zmf zwf zpf kac knx kim cf xw) (hm : MW g mo m_taped d_tape d_r d_st d_undone d_kept m_undos m_images m_hasHouse mw) (hR : LR xtpd tpf yhnf yhtn yhtf yhjn yhjf yhmn yhmf yhbn yhbf yhsn yhsf yhcn yhcf zrn zmn zwn zpn zmd ztr zrf zmf zwf zpf kac knx kim cf m_taped d_tape d_r d_st d_undone d_kept m_undos m_images m_hasHouse) (kk : ∀ (xtpd_2 : Int32) (tpf_2 : Nat → Int32) (yhnf_2 : Nat → Int32) (yhtn_2 : Int32) (yhtf_2 : Nat → Int32) (yhjn_2 : Int32) (yhjf_2 : Nat → Int32) (yhmn_2 : Int32) (yhmf_2 : Nat → Int32) (yhbn_2 : Int32) (yhbf_2 : Nat → Int32) (yhsn_2 : Int32) (yhsf_2 : Nat → Int32) (yhcn_2 : Int32) (yhcf_2 : Nat → Int32) (zrn_2 : Int32) (zmn_2 : Int32) (zwn_2 : Int32) (zpn_2 : Int32) (zmd_2 : Int32) (ztr_2 : Int32) (zrf_2 : Nat → Int32) (zmf_2 : Nat → Int32) (zwf_2 : Nat → Int32) (zpf_2 : Nat → Int32) (kac_2 : Int32) (knx_2 : Int32) (kim_2 : Int32) (cf_2 : Nat → SC) (m_taped_2 : Int32) (d_tape_2 : Nat → Int32) (d_r_2 : Nat → Int32) (d_st_2 : Nat → Int32) (d_undone_2 : Nat → Int32) (d_kept_2 : Nat → Int32) (m_undos_2 : Int32) (m_images_2 : Int32) (m_hasHouse_2 : Int32) (xw2 mw2 : va_W), XW g h0 xtpd_2 tpf_2 yhnf_2 yhtn_2 yhtf_2 yhjn_2 yhjf_2 yhmn_2 yhmf_2 yhbn_2 yhbf_2 yhsn_2 yhsf_2 yhcn_2 yhcf_2 zrn_2 zmn_2 zwn_2 zpn_2 zmd_2 ztr_2 zrf_2 zmf_2 zwf_2 zpf_2 kac_2 knx_2 kim_2 cf_2 xw2 → MW g mo m_taped_2 d_tape_2 d_r_2 d_st_2 d_undone_2 d_kept_2 m_undos_2 m_images_2 m_hasHouse_2 mw2 → LR xtpd_2 tpf_2 yhnf_2 yhtn_2 yhtf_2 yhjn_2 yhjf_2 yhmn_2 yhmf_2 yhbn_2 yhbf_2 yhsn_2 yhsf_2 yhcn_2 yhcf_2 zrn_2 zmn_2 zwn_2 zpn_2 zmd_2 ztr_2 zrf_2 zmf_2 zwf_2 zpf_2 kac_2 knx_2 kim_2 cf_2 m_taped_2 d_tape_2 d_r_2 d_st_2 d_undone_2 d_kept_2 m_undos_2 m_images_2 m_hasHouse_2 → Wk p l e room_1 s m #[Value.ref b] below meth c (lw_Z below #[Value.ref b] s) A g 7 n1 n2 (xw2 ++ (mw2 ++ [(cAJ g lo 1 fo)])) [(4, .int u4), (3, .ref lo), (2, .ref mo), (1, .ref h0), (0, .ref b)] 2062 []) : Wk p l e room_1 s m #[Value.ref b] below meth c (lw_Z below #[Value.ref b] s) A g 7 n1 n2 (xw ++ (mw ++ [(cAJ g lo 1 fo)])) [(4, .int u4), (3, .ref lo), (2, .ref mo), (1, .ref h0), (0, .ref b)] 635 [] := by
  have hiv : IV u4 0 3066 := ⟨hi.1, by omega⟩
  refine k_aload_n X dL_law_k22.1.1.1.1 3 rfl ?_
  refine k_aload_n X dL_law_k22.1.1.1.2 4 rfl ?_
  refine k_iload X dL_law_k22.1.1.2.1 0 rfl ?_
  refine k_iconst (v := 1) X dL_law_k22.1.1.2.2 ic_1 ?_
  refine k_iadd X dL_law_k22.1.2.1.1 ?_
  refine k_nm (fun z_1 ez_1 => ?_)
  have i_2 : z_1.toInt = u4.toInt + 1 := in_add ez_1 hiv iq_1_1_1 (zle_e rfl) (zle_e rfl)
  have iv_3 : IV z_1 1 3067 := by have := hiv; have := iq_1_1_1; rw [IV, i_2]; omega
  refine k_sld X hX hbl hbA dL_law_k22.1.2.1.2 (by rw [vp_in_iff]; have := iv_3; omega) ?_
  refine k_nm (fun a_4 ea_4 => ?_)
  refine k_aload_n X dL_law_k22.1.2.2.1 4 rfl ?_
  refine k_iload X dL_law_k22.1.2.2.2 0 rfl ?_
  refine k_iconst (v := 2) X dL_law_k22.2.1.1.1 ic_2 ?_
  refine k_iadd X dL_law_k22.2.1.1.2 ?_
  refine k_nm (fun z_5 ez_5 => ?_)
  have i_6 : z_5.toInt = u4.toInt + 2 := in_add ez_5 hiv iq_2_2_2 (zle_e rfl) (zle_e rfl)
  have iv_7 : IV z_5 2 3068 := by have := hiv; have := iq_2_2_2; rw [IV, i_6]; omega
  refine k_sld X hX hbl hbA dL_law_k22.2.1.2.1 (by rw [vp_in_iff]; have := iv_7; omega) ?_
  refine k_nm (fun a_8 ea_8 => ?_)
  refine lx_lost (st := []) a_4 a_8 X hx dL_law_k22.2.1.2.2 mw861 (Nat.le_of_ble_eq_true rfl) (Nat.le_of_ble_eq_true rfl) (Nat.le_of_ble_eq_true rfl) (Nat.le_trans h1 (Nat.le_of_ble_eq_true rfl)) (Nat.le_trans h2 (Nat.le_of_ble_eq_true rfl)) (fun r_9 xw_10 hx_11 => ?_)
  refine k_pop X dL_law_k22.2.2.1.1 rfl ?_
  refine k_aload_n X dL_law_k22.2.2.1.2 2 rfl ?_
  refine k_aload_n X dL_law_k22.2.2.2.1 4 rfl ?_
  refine k_iload X dL_law_k22.2.2.2.2 0 rfl ?_
  refine k_iconst (v := 1) X dL_law_k23.1.1.1 ic_1 ?_
  refine k_iadd X dL_law_k23.1.1.2 ?_
  refine k_to z_1 ez_1.symm ?_
  refine k_sld X hX hbl hbA dL_law_k23.1.2.1 (by rw [vp_in_iff]; have := iv_3; omega) ?_
  refine k_to a_4 ea_4.symm ?_
  refine k_aload_n X dL_law_k23.1.2.2.1 4 rfl ?_
  refine k_iload X dL_law_k23.1.2.2.2 0 rfl ?_
  refine k_iconst (v := 2) X dL_law_k23.2.1.1 ic_2 ?_
  refine k_iadd X dL_law_k23.2.1.2.1 ?_
  refine k_to z_5 ez_5.symm ?_
  refine k_sld X hX hbl hbA dL_law_k23.2.1.2.2 (by rw [vp_in_iff]; have := iv_7; omega) ?_
  refine k_to a_8 ea_8.symm ?_
  refine lm_lost (st := []) a_4 a_8 X hm dL_law_k23.2.2.1 mw865 (Nat.le_of_ble_eq_true rfl) (Nat.le_of_ble_eq_true rfl) (Nat.le_of_ble_eq_true rfl) (Nat.le_trans h1 (Nat.le_of_ble_eq_true rfl)) (Nat.le_trans h2 (Nat.le_of_ble_eq_true rfl)) (fun r_12 mw_13 hm_14 => ?_)
  refine k_pop X dL_law_k23.2.2.2.1 rfl ?_
  refine k_goto 2062 X dL_law_k23.2.2.2.2 (jp_e rfl) ?_
  exact kk _ _ _ _ _ _ _ _ _ _ _ _ _ _ _ _ _ _ _ _ _ _ _ _ _ _ _ _ _ _ _ _ _ _ _ _ _ _ _ _ hx_11 hm_14 hR

theorem dL_law_k24 : ((((dD cL_law 672 (.aload_n 1) 1 ∧ dD cL_law 673 (.aload_n 0) 1) ∧ (dD cL_law 674 (.iload 4) 2 ∧ dD cL_law 676 (.iconst 1) 1)) ∧ ((dD cL_law 677 .iadd 1 ∧ dD cL_law 678 .iaload 1) ∧ (dD cL_law 679 (.aload_n 0) 1 ∧ dD cL_law 680 (.iload 4) 2))) ∧ (((dD cL_law 682 (.iconst 2) 1 ∧ dD cL_law 683 .iadd 1) ∧ (dD cL_law 684 .iaload 1 ∧ dD cL_law 685 (.invokevirtual 70) 3)) ∧ ((dD cL_law 688 .pop 1 ∧ dD cL_law 689 (.aload_n 2) 1) ∧ (dD cL_law 690 (.aload_n 0) 1 ∧ dD cL_law 691 (.iload 4) 2)))) := dkA16 (by decide +kernel)
theorem dL_law_k25 : (((dD cL_law 693 (.iconst 1) 1 ∧ dD cL_law 694 .iadd 1) ∧ (dD cL_law 695 .iaload 1 ∧ (dD cL_law 696 (.aload_n 0) 1 ∧ dD cL_law 697 (.iload 4) 2))) ∧ ((dD cL_law 699 (.iconst 2) 1 ∧ (dD cL_law 700 .iadd 1 ∧ dD cL_law 701 .iaload 1)) ∧ (dD cL_law 702 (.invokevirtual 73) 3 ∧ (dD cL_law 705 .pop 1 ∧ dD cL_law 706 (.goto 1356) 3)))) := dkA11 (by decide +kernel)
set_option maxHeartbeats 4000000 in
set_option maxRecDepth 100000 in
theorem law_c12 {p : Program} {l : Launch} {e : Env} {s : State} {m : MethodId} {below : List Frame} {meth : Method} {c : Code} {A : Nat → Prop} {g : Gx} {b L : Nat} {xs : Nat → Int32} {h0 mo lo n1 n2 : Nat} {fo : Nat → Int64} {u4 : Int32} {xtpd : Int32} {tpf : Nat → Int32} {yhnf : Nat → Int32} {yhtn : Int32} {yhtf : Nat → Int32} {yhjn : Int32} {yhjf : Nat → Int32} {yhmn : Int32} {yhmf : Nat → Int32} {yhbn : Int32} {yhbf : Nat → Int32} {yhsn : Int32} {yhsf : Nat → Int32} {yhcn : Int32} {yhcf : Nat → Int32} {zrn : Int32} {zmn : Int32} {zwn : Int32} {zpn : Int32} {zmd : Int32} {ztr : Int32} {zrf : Nat → Int32} {zmf : Nat → Int32} {zwf : Nat → Int32} {zpf : Nat → Int32} {kac : Int32} {knx : Int32} {kim : Int32} {cf : Nat → SC} {m_taped : Int32} {d_tape : Nat → Int32} {d_r : Nat → Int32} {d_st : Nat → Int32} {d_undone : Nat → Int32} {d_kept : Nat → Int32} {m_undos : Int32} {m_images : Int32} {m_hasHouse : Int32} {xw mw : va_W} (X : Cx p s m meth c #[Value.ref b] cL_law 7 RL A g) (hX : va_X b L xs s s.heap) (hbl : b < s.heap.size) (hbA : ¬ A b) (hi : 0 ≤ u4.toInt ∧ u4.toInt + 6 ≤ (L : Int)) (hL : L ≤ 3072) (h1 : n1 ≤ 601023) (h2 : n2 ≤ 7293028) (hlt : l.stackTraces = false) (hZ : kZ A s s.heap) (htsE : ∀ w ∈ wsE, w.before #[Value.ref b] s = true) (hx : XW g h0 xtpd tpf yhnf yhtn yhtf yhjn yhjf yhmn yhmf yhbn yhbf yhsn yhsf yhcn yhcf zrn zmn zwn zpn zmd ztr zrf zmf zwf zpf kac knx kim cf xw) (hm : MW g mo m_taped d_tape d_r d_st d_undone d_kept m_undos m_images m_hasHouse mw) (hR : LR xtpd tpf yhnf yhtn yhtf yhjn yhjf yhmn yhmf yhbn yhbf yhsn yhsf yhcn yhcf zrn zmn zwn zpn zmd ztr zrf zmf zwf zpf kac knx kim cf m_taped d_tape d_r d_st d_undone d_kept m_undos m_images m_hasHouse) (kk : ∀ (xtpd_2 : Int32) (tpf_2 : Nat → Int32) (yhnf_2 : Nat → Int32) (yhtn_2 : Int32) (yhtf_2 : Nat → Int32) (yhjn_2 : Int32) (yhjf_2 : Nat → Int32) (yhmn_2 : Int32) (yhmf_2 : Nat → Int32) (yhbn_2 : Int32) (yhbf_2 : Nat → Int32) (yhsn_2 : Int32) (yhsf_2 : Nat → Int32) (yhcn_2 : Int32) (yhcf_2 : Nat → Int32) (zrn_2 : Int32) (zmn_2 : Int32) (zwn_2 : Int32) (zpn_2 : Int32) (zmd_2 : Int32) (ztr_2 : Int32) (zrf_2 : Nat → Int32) (zmf_2 : Nat → Int32) (zwf_2 : Nat → Int32) (zpf_2 : Nat → Int32) (kac_2 : Int32) (knx_2 : Int32) (kim_2 : Int32) (cf_2 : Nat → SC) (m_taped_2 : Int32) (d_tape_2 : Nat → Int32) (d_r_2 : Nat → Int32) (d_st_2 : Nat → Int32) (d_undone_2 : Nat → Int32) (d_kept_2 : Nat → Int32) (m_undos_2 : Int32) (m_images_2 : Int32) (m_hasHouse_2 : Int32) (xw2 mw2 : va_W), XW g h0 xtpd_2 tpf_2 yhnf_2 yhtn_2 yhtf_2 yhjn_2 yhjf_2 yhmn_2 yhmf_2 yhbn_2 yhbf_2 yhsn_2 yhsf_2 yhcn_2 yhcf_2 zrn_2 zmn_2 zwn_2 zpn_2 zmd_2 ztr_2 zrf_2 zmf_2 zwf_2 zpf_2 kac_2 knx_2 kim_2 cf_2 xw2 → MW g mo m_taped_2 d_tape_2 d_r_2 d_st_2 d_undone_2 d_kept_2 m_undos_2 m_images_2 m_hasHouse_2 mw2 → LR xtpd_2 tpf_2 yhnf_2 yhtn_2 yhtf_2 yhjn_2 yhjf_2 yhmn_2 yhmf_2 yhbn_2 yhbf_2 yhsn_2 yhsf_2 yhcn_2 yhcf_2 zrn_2 zmn_2 zwn_2 zpn_2 zmd_2 ztr_2 zrf_2 zmf_2 zwf_2 zpf_2 kac_2 knx_2 kim_2 cf_2 m_taped_2 d_tape_2 d_r_2 d_st_2 d_undone_2 d_kept_2 m_undos_2 m_images_2 m_hasHouse_2 → Wk p l e room_1 s m #[Value.ref b] below meth c (lw_Z below #[Value.ref b] s) A g 7 n1 n2 (xw2 ++ (mw2 ++ [(cAJ g lo 1 fo)])) [(4, .int u4), (3, .ref lo), (2, .ref mo), (1, .ref h0), (0, .ref b)] 2062 []) : Wk p l e room_1 s m #[Value.ref b] below meth c (lw_Z below #[Value.ref b] s) A g 7 n1 n2 (xw ++ (mw ++ [(cAJ g lo 1 fo)])) [(4, .int u4), (3, .ref lo), (2, .ref mo), (1, .ref h0), (0, .ref b)] 672 [] := by
  have hiv : IV u4 0 3066 := ⟨hi.1, by omega⟩
  refine k_aload_n X dL_law_k24.1.1.1.1 3 rfl ?_
  refine k_aload_n X dL_law_k24.1.1.1.2 4 rfl ?_
  refine k_iload X dL_law_k24.1.1.2.1 0 rfl ?_
  refine k_iconst (v := 1) X dL_law_k24.1.1.2.2 ic_1 ?_
  refine k_iadd X dL_law_k24.1.2.1.1 ?_
  refine k_nm (fun z_1 ez_1 => ?_)
  have i_2 : z_1.toInt = u4.toInt + 1 := in_add ez_1 hiv iq_1_1_1 (zle_e rfl) (zle_e rfl)
  have iv_3 : IV z_1 1 3067 := by have := hiv; have := iq_1_1_1; rw [IV, i_2]; omega
  refine k_sld X hX hbl hbA dL_law_k24.1.2.1.2 (by rw [vp_in_iff]; have := iv_3; omega) ?_
  refine k_nm (fun a_4 ea_4 => ?_)
  refine k_aload_n X dL_law_k24.1.2.2.1 4 rfl ?_
  refine k_iload X dL_law_k24.1.2.2.2 0 rfl ?_
  refine k_iconst (v := 2) X dL_law_k24.2.1.1.1 ic_2 ?_
  refine k_iadd X dL_law_k24.2.1.1.2 ?_
  refine k_nm (fun z_5 ez_5 => ?_)
  have i_6 : z_5.toInt = u4.toInt + 2 := in_add ez_5 hiv iq_2_2_2 (zle_e rfl) (zle_e rfl)
  have iv_7 : IV z_5 2 3068 := by have := hiv; have := iq_2_2_2; rw [IV, i_6]; omega
  refine k_sld X hX hbl hbA dL_law_k24.2.1.2.1 (by rw [vp_in_iff]; have := iv_7; omega) ?_
  refine k_nm (fun a_8 ea_8 => ?_)
  refine lx_black (st := []) a_4 a_8 X hx dL_law_k24.2.1.2.2 mw869 (Nat.le_of_ble_eq_true rfl) (Nat.le_of_ble_eq_true rfl) (Nat.le_of_ble_eq_true rfl) (Nat.le_trans h1 (Nat.le_of_ble_eq_true rfl)) (Nat.le_trans h2 (Nat.le_of_ble_eq_true rfl)) (fun r_9 xw_10 hx_11 => ?_)
  refine k_pop X dL_law_k24.2.2.1.1 rfl ?_
  refine k_aload_n X dL_law_k24.2.2.1.2 2 rfl ?_
  refine k_aload_n X dL_law_k24.2.2.2.1 4 rfl ?_
  refine k_iload X dL_law_k24.2.2.2.2 0 rfl ?_
  refine k_iconst (v := 1) X dL_law_k25.1.1.1 ic_1 ?_
  refine k_iadd X dL_law_k25.1.1.2 ?_
  refine k_to z_1 ez_1.symm ?_
  refine k_sld X hX hbl hbA dL_law_k25.1.2.1 (by rw [vp_in_iff]; have := iv_3; omega) ?_
  refine k_to a_4 ea_4.symm ?_
  refine k_aload_n X dL_law_k25.1.2.2.1 4 rfl ?_
  refine k_iload X dL_law_k25.1.2.2.2 0 rfl ?_
  refine k_iconst (v := 2) X dL_law_k25.2.1.1 ic_2 ?_
  refine k_iadd X dL_law_k25.2.1.2.1 ?_
  refine k_to z_5 ez_5.symm ?_
  refine k_sld X hX hbl hbA dL_law_k25.2.1.2.2 (by rw [vp_in_iff]; have := iv_7; omega) ?_
  refine k_to a_8 ea_8.symm ?_
  refine lm_black (st := []) a_4 a_8 X hm dL_law_k25.2.2.1 mw873 (Nat.le_of_ble_eq_true rfl) (Nat.le_of_ble_eq_true rfl) (Nat.le_of_ble_eq_true rfl) (Nat.le_trans h1 (Nat.le_of_ble_eq_true rfl)) (Nat.le_trans h2 (Nat.le_of_ble_eq_true rfl)) (fun r_12 mw_13 hm_14 => ?_)
  refine k_pop X dL_law_k25.2.2.2.1 rfl ?_
  refine k_goto 2062 X dL_law_k25.2.2.2.2 (jp_e rfl) ?_
  exact kk _ _ _ _ _ _ _ _ _ _ _ _ _ _ _ _ _ _ _ _ _ _ _ _ _ _ _ _ _ _ _ _ _ _ _ _ _ _ _ _ hx_11 hm_14 hR

theorem dL_law_k26 : ((((dD cL_law 709 (.aload_n 1) 1 ∧ dD cL_law 710 (.aload_n 0) 1) ∧ (dD cL_law 711 (.iload 4) 2 ∧ dD cL_law 713 (.iconst 1) 1)) ∧ ((dD cL_law 714 .iadd 1 ∧ dD cL_law 715 .iaload 1) ∧ (dD cL_law 716 (.aload_n 0) 1 ∧ dD cL_law 717 (.iload 4) 2))) ∧ (((dD cL_law 719 (.iconst 2) 1 ∧ dD cL_law 720 .iadd 1) ∧ (dD cL_law 721 .iaload 1 ∧ dD cL_law 722 (.invokevirtual 74) 3)) ∧ ((dD cL_law 725 .pop 1 ∧ dD cL_law 726 (.aload_n 2) 1) ∧ (dD cL_law 727 (.aload_n 0) 1 ∧ dD cL_law 728 (.iload 4) 2)))) := dkA16 (by decide +kernel)
theorem dL_law_k27 : (((dD cL_law 730 (.iconst 1) 1 ∧ dD cL_law 731 .iadd 1) ∧ (dD cL_law 732 .iaload 1 ∧ (dD cL_law 733 (.aload_n 0) 1 ∧ dD cL_law 734 (.iload 4) 2))) ∧ ((dD cL_law 736 (.iconst 2) 1 ∧ (dD cL_law 737 .iadd 1 ∧ dD cL_law 738 .iaload 1)) ∧ (dD cL_law 739 (.invokevirtual 77) 3 ∧ (dD cL_law 742 .pop 1 ∧ dD cL_law 743 (.goto 1319) 3)))) := dkA11 (by decide +kernel)
set_option maxHeartbeats 4000000 in
set_option maxRecDepth 100000 in
theorem law_c13 {p : Program} {l : Launch} {e : Env} {s : State} {m : MethodId} {below : List Frame} {meth : Method} {c : Code} {A : Nat → Prop} {g : Gx} {b L : Nat} {xs : Nat → Int32} {h0 mo lo n1 n2 : Nat} {fo : Nat → Int64} {u4 : Int32} {xtpd : Int32} {tpf : Nat → Int32} {yhnf : Nat → Int32} {yhtn : Int32} {yhtf : Nat → Int32} {yhjn : Int32} {yhjf : Nat → Int32} {yhmn : Int32} {yhmf : Nat → Int32} {yhbn : Int32} {yhbf : Nat → Int32} {yhsn : Int32} {yhsf : Nat → Int32} {yhcn : Int32} {yhcf : Nat → Int32} {zrn : Int32} {zmn : Int32} {zwn : Int32} {zpn : Int32} {zmd : Int32} {ztr : Int32} {zrf : Nat → Int32} {zmf : Nat → Int32} {zwf : Nat → Int32} {zpf : Nat → Int32} {kac : Int32} {knx : Int32} {kim : Int32} {cf : Nat → SC} {m_taped : Int32} {d_tape : Nat → Int32} {d_r : Nat → Int32} {d_st : Nat → Int32} {d_undone : Nat → Int32} {d_kept : Nat → Int32} {m_undos : Int32} {m_images : Int32} {m_hasHouse : Int32} {xw mw : va_W} (X : Cx p s m meth c #[Value.ref b] cL_law 7 RL A g) (hX : va_X b L xs s s.heap) (hbl : b < s.heap.size) (hbA : ¬ A b) (hi : 0 ≤ u4.toInt ∧ u4.toInt + 6 ≤ (L : Int)) (hL : L ≤ 3072) (h1 : n1 ≤ 601023) (h2 : n2 ≤ 7293028) (hlt : l.stackTraces = false) (hZ : kZ A s s.heap) (htsE : ∀ w ∈ wsE, w.before #[Value.ref b] s = true) (hx : XW g h0 xtpd tpf yhnf yhtn yhtf yhjn yhjf yhmn yhmf yhbn yhbf yhsn yhsf yhcn yhcf zrn zmn zwn zpn zmd ztr zrf zmf zwf zpf kac knx kim cf xw) (hm : MW g mo m_taped d_tape d_r d_st d_undone d_kept m_undos m_images m_hasHouse mw) (hR : LR xtpd tpf yhnf yhtn yhtf yhjn yhjf yhmn yhmf yhbn yhbf yhsn yhsf yhcn yhcf zrn zmn zwn zpn zmd ztr zrf zmf zwf zpf kac knx kim cf m_taped d_tape d_r d_st d_undone d_kept m_undos m_images m_hasHouse) (kk : ∀ (xtpd_2 : Int32) (tpf_2 : Nat → Int32) (yhnf_2 : Nat → Int32) (yhtn_2 : Int32) (yhtf_2 : Nat → Int32) (yhjn_2 : Int32) (yhjf_2 : Nat → Int32) (yhmn_2 : Int32) (yhmf_2 : Nat → Int32) (yhbn_2 : Int32) (yhbf_2 : Nat → Int32) (yhsn_2 : Int32) (yhsf_2 : Nat → Int32) (yhcn_2 : Int32) (yhcf_2 : Nat → Int32) (zrn_2 : Int32) (zmn_2 : Int32) (zwn_2 : Int32) (zpn_2 : Int32) (zmd_2 : Int32) (ztr_2 : Int32) (zrf_2 : Nat → Int32) (zmf_2 : Nat → Int32) (zwf_2 : Nat → Int32) (zpf_2 : Nat → Int32) (kac_2 : Int32) (knx_2 : Int32) (kim_2 : Int32) (cf_2 : Nat → SC) (m_taped_2 : Int32) (d_tape_2 : Nat → Int32) (d_r_2 : Nat → Int32) (d_st_2 : Nat → Int32) (d_undone_2 : Nat → Int32) (d_kept_2 : Nat → Int32) (m_undos_2 : Int32) (m_images_2 : Int32) (m_hasHouse_2 : Int32) (xw2 mw2 : va_W), XW g h0 xtpd_2 tpf_2 yhnf_2 yhtn_2 yhtf_2 yhjn_2 yhjf_2 yhmn_2 yhmf_2 yhbn_2 yhbf_2 yhsn_2 yhsf_2 yhcn_2 yhcf_2 zrn_2 zmn_2 zwn_2 zpn_2 zmd_2 ztr_2 zrf_2 zmf_2 zwf_2 zpf_2 kac_2 knx_2 kim_2 cf_2 xw2 → MW g mo m_taped_2 d_tape_2 d_r_2 d_st_2 d_undone_2 d_kept_2 m_undos_2 m_images_2 m_hasHouse_2 mw2 → LR xtpd_2 tpf_2 yhnf_2 yhtn_2 yhtf_2 yhjn_2 yhjf_2 yhmn_2 yhmf_2 yhbn_2 yhbf_2 yhsn_2 yhsf_2 yhcn_2 yhcf_2 zrn_2 zmn_2 zwn_2 zpn_2 zmd_2 ztr_2 zrf_2 zmf_2 zwf_2 zpf_2 kac_2 knx_2 kim_2 cf_2 m_taped_2 d_tape_2 d_r_2 d_st_2 d_undone_2 d_kept_2 m_undos_2 m_images_2 m_hasHouse_2 → Wk p l e room_1 s m #[Value.ref b] below meth c (lw_Z below #[Value.ref b] s) A g 7 n1 n2 (xw2 ++ (mw2 ++ [(cAJ g lo 1 fo)])) [(4, .int u4), (3, .ref lo), (2, .ref mo), (1, .ref h0), (0, .ref b)] 2062 []) : Wk p l e room_1 s m #[Value.ref b] below meth c (lw_Z below #[Value.ref b] s) A g 7 n1 n2 (xw ++ (mw ++ [(cAJ g lo 1 fo)])) [(4, .int u4), (3, .ref lo), (2, .ref mo), (1, .ref h0), (0, .ref b)] 709 [] := by
  have hiv : IV u4 0 3066 := ⟨hi.1, by omega⟩
  refine k_aload_n X dL_law_k26.1.1.1.1 3 rfl ?_
  refine k_aload_n X dL_law_k26.1.1.1.2 4 rfl ?_
  refine k_iload X dL_law_k26.1.1.2.1 0 rfl ?_
  refine k_iconst (v := 1) X dL_law_k26.1.1.2.2 ic_1 ?_
  refine k_iadd X dL_law_k26.1.2.1.1 ?_
  refine k_nm (fun z_1 ez_1 => ?_)
  have i_2 : z_1.toInt = u4.toInt + 1 := in_add ez_1 hiv iq_1_1_1 (zle_e rfl) (zle_e rfl)
  have iv_3 : IV z_1 1 3067 := by have := hiv; have := iq_1_1_1; rw [IV, i_2]; omega
  refine k_sld X hX hbl hbA dL_law_k26.1.2.1.2 (by rw [vp_in_iff]; have := iv_3; omega) ?_
  refine k_nm (fun a_4 ea_4 => ?_)
  refine k_aload_n X dL_law_k26.1.2.2.1 4 rfl ?_
  refine k_iload X dL_law_k26.1.2.2.2 0 rfl ?_
  refine k_iconst (v := 2) X dL_law_k26.2.1.1.1 ic_2 ?_
  refine k_iadd X dL_law_k26.2.1.1.2 ?_
  refine k_nm (fun z_5 ez_5 => ?_)
  have i_6 : z_5.toInt = u4.toInt + 2 := in_add ez_5 hiv iq_2_2_2 (zle_e rfl) (zle_e rfl)
  have iv_7 : IV z_5 2 3068 := by have := hiv; have := iq_2_2_2; rw [IV, i_6]; omega
  refine k_sld X hX hbl hbA dL_law_k26.2.1.2.1 (by rw [vp_in_iff]; have := iv_7; omega) ?_
  refine k_nm (fun a_8 ea_8 => ?_)
  refine lx_tail (st := []) a_4 a_8 X hx dL_law_k26.2.1.2.2 mw877 (Nat.le_of_ble_eq_true rfl) (Nat.le_of_ble_eq_true rfl) (Nat.le_of_ble_eq_true rfl) (Nat.le_trans h1 (Nat.le_of_ble_eq_true rfl)) (Nat.le_trans h2 (Nat.le_of_ble_eq_true rfl)) (fun r_9 xw_10 hx_11 => ?_)
  refine k_pop X dL_law_k26.2.2.1.1 rfl ?_
  refine k_aload_n X dL_law_k26.2.2.1.2 2 rfl ?_
  refine k_aload_n X dL_law_k26.2.2.2.1 4 rfl ?_
  refine k_iload X dL_law_k26.2.2.2.2 0 rfl ?_
  refine k_iconst (v := 1) X dL_law_k27.1.1.1 ic_1 ?_
  refine k_iadd X dL_law_k27.1.1.2 ?_
  refine k_to z_1 ez_1.symm ?_
  refine k_sld X hX hbl hbA dL_law_k27.1.2.1 (by rw [vp_in_iff]; have := iv_3; omega) ?_
  refine k_to a_4 ea_4.symm ?_
  refine k_aload_n X dL_law_k27.1.2.2.1 4 rfl ?_
  refine k_iload X dL_law_k27.1.2.2.2 0 rfl ?_
  refine k_iconst (v := 2) X dL_law_k27.2.1.1 ic_2 ?_
  refine k_iadd X dL_law_k27.2.1.2.1 ?_
  refine k_to z_5 ez_5.symm ?_
  refine k_sld X hX hbl hbA dL_law_k27.2.1.2.2 (by rw [vp_in_iff]; have := iv_7; omega) ?_
  refine k_to a_8 ea_8.symm ?_
  refine lm_tail (st := []) a_4 a_8 X hm dL_law_k27.2.2.1 mw881 (Nat.le_of_ble_eq_true rfl) (Nat.le_of_ble_eq_true rfl) (Nat.le_of_ble_eq_true rfl) (Nat.le_trans h1 (Nat.le_of_ble_eq_true rfl)) (Nat.le_trans h2 (Nat.le_of_ble_eq_true rfl)) (fun r_12 mw_13 hm_14 => ?_)
  refine k_pop X dL_law_k27.2.2.2.1 rfl ?_
  refine k_goto 2062 X dL_law_k27.2.2.2.2 (jp_e rfl) ?_
  exact kk _ _ _ _ _ _ _ _ _ _ _ _ _ _ _ _ _ _ _ _ _ _ _ _ _ _ _ _ _ _ _ _ _ _ _ _ _ _ _ _ hx_11 hm_14 hR

theorem dL_law_k28 : ((((dD cL_law 746 (.aload_n 1) 1 ∧ dD cL_law 747 (.aload_n 0) 1) ∧ (dD cL_law 748 (.iload 4) 2 ∧ dD cL_law 750 (.iconst 1) 1)) ∧ ((dD cL_law 751 .iadd 1 ∧ dD cL_law 752 .iaload 1) ∧ (dD cL_law 753 (.aload_n 0) 1 ∧ dD cL_law 754 (.iload 4) 2))) ∧ (((dD cL_law 756 (.iconst 2) 1 ∧ dD cL_law 757 .iadd 1) ∧ (dD cL_law 758 .iaload 1 ∧ dD cL_law 759 (.invokevirtual 78) 3)) ∧ ((dD cL_law 762 .pop 1 ∧ dD cL_law 763 (.aload_n 2) 1) ∧ (dD cL_law 764 (.aload_n 0) 1 ∧ dD cL_law 765 (.iload 4) 2)))) := dkA16 (by decide +kernel)
theorem dL_law_k29 : (((dD cL_law 767 (.iconst 1) 1 ∧ dD cL_law 768 .iadd 1) ∧ (dD cL_law 769 .iaload 1 ∧ (dD cL_law 770 (.aload_n 0) 1 ∧ dD cL_law 771 (.iload 4) 2))) ∧ ((dD cL_law 773 (.iconst 2) 1 ∧ (dD cL_law 774 .iadd 1 ∧ dD cL_law 775 .iaload 1)) ∧ (dD cL_law 776 (.invokevirtual 81) 3 ∧ (dD cL_law 779 .pop 1 ∧ dD cL_law 780 (.goto 1282) 3)))) := dkA11 (by decide +kernel)
set_option maxHeartbeats 4000000 in
set_option maxRecDepth 100000 in
theorem law_c14 {p : Program} {l : Launch} {e : Env} {s : State} {m : MethodId} {below : List Frame} {meth : Method} {c : Code} {A : Nat → Prop} {g : Gx} {b L : Nat} {xs : Nat → Int32} {h0 mo lo n1 n2 : Nat} {fo : Nat → Int64} {u4 : Int32} {xtpd : Int32} {tpf : Nat → Int32} {yhnf : Nat → Int32} {yhtn : Int32} {yhtf : Nat → Int32} {yhjn : Int32} {yhjf : Nat → Int32} {yhmn : Int32} {yhmf : Nat → Int32} {yhbn : Int32} {yhbf : Nat → Int32} {yhsn : Int32} {yhsf : Nat → Int32} {yhcn : Int32} {yhcf : Nat → Int32} {zrn : Int32} {zmn : Int32} {zwn : Int32} {zpn : Int32} {zmd : Int32} {ztr : Int32} {zrf : Nat → Int32} {zmf : Nat → Int32} {zwf : Nat → Int32} {zpf : Nat → Int32} {kac : Int32} {knx : Int32} {kim : Int32} {cf : Nat → SC} {m_taped : Int32} {d_tape : Nat → Int32} {d_r : Nat → Int32} {d_st : Nat → Int32} {d_undone : Nat → Int32} {d_kept : Nat → Int32} {m_undos : Int32} {m_images : Int32} {m_hasHouse : Int32} {xw mw : va_W} (X : Cx p s m meth c #[Value.ref b] cL_law 7 RL A g) (hX : va_X b L xs s s.heap) (hbl : b < s.heap.size) (hbA : ¬ A b) (hi : 0 ≤ u4.toInt ∧ u4.toInt + 6 ≤ (L : Int)) (hL : L ≤ 3072) (h1 : n1 ≤ 601023) (h2 : n2 ≤ 7293028) (hlt : l.stackTraces = false) (hZ : kZ A s s.heap) (htsE : ∀ w ∈ wsE, w.before #[Value.ref b] s = true) (hx : XW g h0 xtpd tpf yhnf yhtn yhtf yhjn yhjf yhmn yhmf yhbn yhbf yhsn yhsf yhcn yhcf zrn zmn zwn zpn zmd ztr zrf zmf zwf zpf kac knx kim cf xw) (hm : MW g mo m_taped d_tape d_r d_st d_undone d_kept m_undos m_images m_hasHouse mw) (hR : LR xtpd tpf yhnf yhtn yhtf yhjn yhjf yhmn yhmf yhbn yhbf yhsn yhsf yhcn yhcf zrn zmn zwn zpn zmd ztr zrf zmf zwf zpf kac knx kim cf m_taped d_tape d_r d_st d_undone d_kept m_undos m_images m_hasHouse) (kk : ∀ (xtpd_2 : Int32) (tpf_2 : Nat → Int32) (yhnf_2 : Nat → Int32) (yhtn_2 : Int32) (yhtf_2 : Nat → Int32) (yhjn_2 : Int32) (yhjf_2 : Nat → Int32) (yhmn_2 : Int32) (yhmf_2 : Nat → Int32) (yhbn_2 : Int32) (yhbf_2 : Nat → Int32) (yhsn_2 : Int32) (yhsf_2 : Nat → Int32) (yhcn_2 : Int32) (yhcf_2 : Nat → Int32) (zrn_2 : Int32) (zmn_2 : Int32) (zwn_2 : Int32) (zpn_2 : Int32) (zmd_2 : Int32) (ztr_2 : Int32) (zrf_2 : Nat → Int32) (zmf_2 : Nat → Int32) (zwf_2 : Nat → Int32) (zpf_2 : Nat → Int32) (kac_2 : Int32) (knx_2 : Int32) (kim_2 : Int32) (cf_2 : Nat → SC) (m_taped_2 : Int32) (d_tape_2 : Nat → Int32) (d_r_2 : Nat → Int32) (d_st_2 : Nat → Int32) (d_undone_2 : Nat → Int32) (d_kept_2 : Nat → Int32) (m_undos_2 : Int32) (m_images_2 : Int32) (m_hasHouse_2 : Int32) (xw2 mw2 : va_W), XW g h0 xtpd_2 tpf_2 yhnf_2 yhtn_2 yhtf_2 yhjn_2 yhjf_2 yhmn_2 yhmf_2 yhbn_2 yhbf_2 yhsn_2 yhsf_2 yhcn_2 yhcf_2 zrn_2 zmn_2 zwn_2 zpn_2 zmd_2 ztr_2 zrf_2 zmf_2 zwf_2 zpf_2 kac_2 knx_2 kim_2 cf_2 xw2 → MW g mo m_taped_2 d_tape_2 d_r_2 d_st_2 d_undone_2 d_kept_2 m_undos_2 m_images_2 m_hasHouse_2 mw2 → LR xtpd_2 tpf_2 yhnf_2 yhtn_2 yhtf_2 yhjn_2 yhjf_2 yhmn_2 yhmf_2 yhbn_2 yhbf_2 yhsn_2 yhsf_2 yhcn_2 yhcf_2 zrn_2 zmn_2 zwn_2 zpn_2 zmd_2 ztr_2 zrf_2 zmf_2 zwf_2 zpf_2 kac_2 knx_2 kim_2 cf_2 m_taped_2 d_tape_2 d_r_2 d_st_2 d_undone_2 d_kept_2 m_undos_2 m_images_2 m_hasHouse_2 → Wk p l e room_1 s m #[Value.ref b] below meth c (lw_Z below #[Value.ref b] s) A g 7 n1 n2 (xw2 ++ (mw2 ++ [(cAJ g lo 1 fo)])) [(4, .int u4), (3, .ref lo), (2, .ref mo), (1, .ref h0), (0, .ref b)] 2062 []) : Wk p l e room_1 s m #[Value.ref b] below meth c (lw_Z below #[Value.ref b] s) A g 7 n1 n2 (xw ++ (mw ++ [(cAJ g lo 1 fo)])) [(4, .int u4), (3, .ref lo), (2, .ref mo), (1, .ref h0), (0, .ref b)] 746 [] := by
  have hiv : IV u4 0 3066 := ⟨hi.1, by omega⟩
  refine k_aload_n X dL_law_k28.1.1.1.1 3 rfl ?_
  refine k_aload_n X dL_law_k28.1.1.1.2 4 rfl ?_
  refine k_iload X dL_law_k28.1.1.2.1 0 rfl ?_
  refine k_iconst (v := 1) X dL_law_k28.1.1.2.2 ic_1 ?_
  refine k_iadd X dL_law_k28.1.2.1.1 ?_
  refine k_nm (fun z_1 ez_1 => ?_)
  have i_2 : z_1.toInt = u4.toInt + 1 := in_add ez_1 hiv iq_1_1_1 (zle_e rfl) (zle_e rfl)
  have iv_3 : IV z_1 1 3067 := by have := hiv; have := iq_1_1_1; rw [IV, i_2]; omega
  refine k_sld X hX hbl hbA dL_law_k28.1.2.1.2 (by rw [vp_in_iff]; have := iv_3; omega) ?_
  refine k_nm (fun a_4 ea_4 => ?_)
  refine k_aload_n X dL_law_k28.1.2.2.1 4 rfl ?_
  refine k_iload X dL_law_k28.1.2.2.2 0 rfl ?_
  refine k_iconst (v := 2) X dL_law_k28.2.1.1.1 ic_2 ?_
  refine k_iadd X dL_law_k28.2.1.1.2 ?_
  refine k_nm (fun z_5 ez_5 => ?_)
  have i_6 : z_5.toInt = u4.toInt + 2 := in_add ez_5 hiv iq_2_2_2 (zle_e rfl) (zle_e rfl)
  have iv_7 : IV z_5 2 3068 := by have := hiv; have := iq_2_2_2; rw [IV, i_6]; omega
  refine k_sld X hX hbl hbA dL_law_k28.2.1.2.1 (by rw [vp_in_iff]; have := iv_7; omega) ?_
  refine k_nm (fun a_8 ea_8 => ?_)
  refine lx_begins (st := []) a_4 a_8 X hx dL_law_k28.2.1.2.2 mw889 (Nat.le_of_ble_eq_true rfl) (Nat.le_of_ble_eq_true rfl) (Nat.le_of_ble_eq_true rfl) (Nat.le_trans h1 (Nat.le_of_ble_eq_true rfl)) (Nat.le_trans h2 (Nat.le_of_ble_eq_true rfl)) (fun r_9 xw_10 hx_11 => ?_)
  refine k_pop X dL_law_k28.2.2.1.1 rfl ?_
  refine k_aload_n X dL_law_k28.2.2.1.2 2 rfl ?_
  refine k_aload_n X dL_law_k28.2.2.2.1 4 rfl ?_
  refine k_iload X dL_law_k28.2.2.2.2 0 rfl ?_
  refine k_iconst (v := 1) X dL_law_k29.1.1.1 ic_1 ?_
  refine k_iadd X dL_law_k29.1.1.2 ?_
  refine k_to z_1 ez_1.symm ?_
  refine k_sld X hX hbl hbA dL_law_k29.1.2.1 (by rw [vp_in_iff]; have := iv_3; omega) ?_
  refine k_to a_4 ea_4.symm ?_
  refine k_aload_n X dL_law_k29.1.2.2.1 4 rfl ?_
  refine k_iload X dL_law_k29.1.2.2.2 0 rfl ?_
  refine k_iconst (v := 2) X dL_law_k29.2.1.1 ic_2 ?_
  refine k_iadd X dL_law_k29.2.1.2.1 ?_
  refine k_to z_5 ez_5.symm ?_
  refine k_sld X hX hbl hbA dL_law_k29.2.1.2.2 (by rw [vp_in_iff]; have := iv_7; omega) ?_
  refine k_to a_8 ea_8.symm ?_
  refine lm_begins (st := []) a_4 a_8 X hm dL_law_k29.2.2.1 mw893 (Nat.le_of_ble_eq_true rfl) (Nat.le_of_ble_eq_true rfl) (Nat.le_of_ble_eq_true rfl) (Nat.le_trans h1 (Nat.le_of_ble_eq_true rfl)) (Nat.le_trans h2 (Nat.le_of_ble_eq_true rfl)) (fun r_12 mw_13 hm_14 => ?_)
  refine k_pop X dL_law_k29.2.2.2.1 rfl ?_
  refine k_goto 2062 X dL_law_k29.2.2.2.2 (jp_e rfl) ?_
  exact kk _ _ _ _ _ _ _ _ _ _ _ _ _ _ _ _ _ _ _ _ _ _ _ _ _ _ _ _ _ _ _ _ _ _ _ _ _ _ _ _ hx_11 hm_14 hR

theorem dL_law_k30 : ((((dD cL_law 783 (.aload_n 1) 1 ∧ dD cL_law 784 (.aload_n 0) 1) ∧ (dD cL_law 785 (.iload 4) 2 ∧ dD cL_law 787 (.iconst 1) 1)) ∧ ((dD cL_law 788 .iadd 1 ∧ dD cL_law 789 .iaload 1) ∧ (dD cL_law 790 (.invokevirtual 82) 3 ∧ dD cL_law 793 .pop 1))) ∧ (((dD cL_law 794 (.aload_n 2) 1 ∧ dD cL_law 795 (.aload_n 0) 1) ∧ (dD cL_law 796 (.iload 4) 2 ∧ dD cL_law 798 (.iconst 1) 1)) ∧ ((dD cL_law 799 .iadd 1 ∧ dD cL_law 800 .iaload 1) ∧ (dD cL_law 801 (.invokevirtual 85) 3 ∧ dD cL_law 804 .pop 1)))) := dkA16 (by decide +kernel)
theorem dL_law_k31 : dD cL_law 805 (.goto 1257) 3 := dkA1 (by decide +kernel)
set_option maxHeartbeats 4000000 in
set_option maxRecDepth 100000 in
theorem law_c15 {p : Program} {l : Launch} {e : Env} {s : State} {m : MethodId} {below : List Frame} {meth : Method} {c : Code} {A : Nat → Prop} {g : Gx} {b L : Nat} {xs : Nat → Int32} {h0 mo lo n1 n2 : Nat} {fo : Nat → Int64} {u4 : Int32} {xtpd : Int32} {tpf : Nat → Int32} {yhnf : Nat → Int32} {yhtn : Int32} {yhtf : Nat → Int32} {yhjn : Int32} {yhjf : Nat → Int32} {yhmn : Int32} {yhmf : Nat → Int32} {yhbn : Int32} {yhbf : Nat → Int32} {yhsn : Int32} {yhsf : Nat → Int32} {yhcn : Int32} {yhcf : Nat → Int32} {zrn : Int32} {zmn : Int32} {zwn : Int32} {zpn : Int32} {zmd : Int32} {ztr : Int32} {zrf : Nat → Int32} {zmf : Nat → Int32} {zwf : Nat → Int32} {zpf : Nat → Int32} {kac : Int32} {knx : Int32} {kim : Int32} {cf : Nat → SC} {m_taped : Int32} {d_tape : Nat → Int32} {d_r : Nat → Int32} {d_st : Nat → Int32} {d_undone : Nat → Int32} {d_kept : Nat → Int32} {m_undos : Int32} {m_images : Int32} {m_hasHouse : Int32} {xw mw : va_W} (X : Cx p s m meth c #[Value.ref b] cL_law 7 RL A g) (hX : va_X b L xs s s.heap) (hbl : b < s.heap.size) (hbA : ¬ A b) (hi : 0 ≤ u4.toInt ∧ u4.toInt + 6 ≤ (L : Int)) (hL : L ≤ 3072) (h1 : n1 ≤ 601023) (h2 : n2 ≤ 7293028) (hlt : l.stackTraces = false) (hZ : kZ A s s.heap) (htsE : ∀ w ∈ wsE, w.before #[Value.ref b] s = true) (hx : XW g h0 xtpd tpf yhnf yhtn yhtf yhjn yhjf yhmn yhmf yhbn yhbf yhsn yhsf yhcn yhcf zrn zmn zwn zpn zmd ztr zrf zmf zwf zpf kac knx kim cf xw) (hm : MW g mo m_taped d_tape d_r d_st d_undone d_kept m_undos m_images m_hasHouse mw) (hR : LR xtpd tpf yhnf yhtn yhtf yhjn yhjf yhmn yhmf yhbn yhbf yhsn yhsf yhcn yhcf zrn zmn zwn zpn zmd ztr zrf zmf zwf zpf kac knx kim cf m_taped d_tape d_r d_st d_undone d_kept m_undos m_images m_hasHouse) (kk : ∀ (xtpd_2 : Int32) (tpf_2 : Nat → Int32) (yhnf_2 : Nat → Int32) (yhtn_2 : Int32) (yhtf_2 : Nat → Int32) (yhjn_2 : Int32) (yhjf_2 : Nat → Int32) (yhmn_2 : Int32) (yhmf_2 : Nat → Int32) (yhbn_2 : Int32) (yhbf_2 : Nat → Int32) (yhsn_2 : Int32) (yhsf_2 : Nat → Int32) (yhcn_2 : Int32) (yhcf_2 : Nat → Int32) (zrn_2 : Int32) (zmn_2 : Int32) (zwn_2 : Int32) (zpn_2 : Int32) (zmd_2 : Int32) (ztr_2 : Int32) (zrf_2 : Nat → Int32) (zmf_2 : Nat → Int32) (zwf_2 : Nat → Int32) (zpf_2 : Nat → Int32) (kac_2 : Int32) (knx_2 : Int32) (kim_2 : Int32) (cf_2 : Nat → SC) (m_taped_2 : Int32) (d_tape_2 : Nat → Int32) (d_r_2 : Nat → Int32) (d_st_2 : Nat → Int32) (d_undone_2 : Nat → Int32) (d_kept_2 : Nat → Int32) (m_undos_2 : Int32) (m_images_2 : Int32) (m_hasHouse_2 : Int32) (xw2 mw2 : va_W), XW g h0 xtpd_2 tpf_2 yhnf_2 yhtn_2 yhtf_2 yhjn_2 yhjf_2 yhmn_2 yhmf_2 yhbn_2 yhbf_2 yhsn_2 yhsf_2 yhcn_2 yhcf_2 zrn_2 zmn_2 zwn_2 zpn_2 zmd_2 ztr_2 zrf_2 zmf_2 zwf_2 zpf_2 kac_2 knx_2 kim_2 cf_2 xw2 → MW g mo m_taped_2 d_tape_2 d_r_2 d_st_2 d_undone_2 d_kept_2 m_undos_2 m_images_2 m_hasHouse_2 mw2 → LR xtpd_2 tpf_2 yhnf_2 yhtn_2 yhtf_2 yhjn_2 yhjf_2 yhmn_2 yhmf_2 yhbn_2 yhbf_2 yhsn_2 yhsf_2 yhcn_2 yhcf_2 zrn_2 zmn_2 zwn_2 zpn_2 zmd_2 ztr_2 zrf_2 zmf_2 zwf_2 zpf_2 kac_2 knx_2 kim_2 cf_2 m_taped_2 d_tape_2 d_r_2 d_st_2 d_undone_2 d_kept_2 m_undos_2 m_images_2 m_hasHouse_2 → Wk p l e room_1 s m #[Value.ref b] below meth c (lw_Z below #[Value.ref b] s) A g 7 n1 n2 (xw2 ++ (mw2 ++ [(cAJ g lo 1 fo)])) [(4, .int u4), (3, .ref lo), (2, .ref mo), (1, .ref h0), (0, .ref b)] 2062 []) : Wk p l e room_1 s m #[Value.ref b] below meth c (lw_Z below #[Value.ref b] s) A g 7 n1 n2 (xw ++ (mw ++ [(cAJ g lo 1 fo)])) [(4, .int u4), (3, .ref lo), (2, .ref mo), (1, .ref h0), (0, .ref b)] 783 [] := by
  have hiv : IV u4 0 3066 := ⟨hi.1, by omega⟩
  refine k_aload_n X dL_law_k30.1.1.1.1 3 rfl ?_
  refine k_aload_n X dL_law_k30.1.1.1.2 4 rfl ?_
  refine k_iload X dL_law_k30.1.1.2.1 0 rfl ?_
  refine k_iconst (v := 1) X dL_law_k30.1.1.2.2 ic_1 ?_
  refine k_iadd X dL_law_k30.1.2.1.1 ?_
  refine k_nm (fun z_1 ez_1 => ?_)
  have i_2 : z_1.toInt = u4.toInt + 1 := in_add ez_1 hiv iq_1_1_1 (zle_e rfl) (zle_e rfl)
  have iv_3 : IV z_1 1 3067 := by have := hiv; have := iq_1_1_1; rw [IV, i_2]; omega
  refine k_sld X hX hbl hbA dL_law_k30.1.2.1.2 (by rw [vp_in_iff]; have := iv_3; omega) ?_
  refine k_nm (fun a_4 ea_4 => ?_)
  refine lx_length (st := []) a_4 X hx dL_law_k30.1.2.2.1 mw897 (Nat.le_of_ble_eq_true rfl) (Nat.le_of_ble_eq_true rfl) (Nat.le_of_ble_eq_true rfl) (Nat.le_trans h1 (Nat.le_of_ble_eq_true rfl)) (Nat.le_trans h2 (Nat.le_of_ble_eq_true rfl)) (fun r_5 xw_6 hx_7 => ?_)
  refine k_pop X dL_law_k30.1.2.2.2 rfl ?_
  refine k_aload_n X dL_law_k30.2.1.1.1 2 rfl ?_
  refine k_aload_n X dL_law_k30.2.1.1.2 4 rfl ?_
  refine k_iload X dL_law_k30.2.1.2.1 0 rfl ?_
  refine k_iconst (v := 1) X dL_law_k30.2.1.2.2 ic_1 ?_
  refine k_iadd X dL_law_k30.2.2.1.1 ?_
  refine k_to z_1 ez_1.symm ?_
  refine k_sld X hX hbl hbA dL_law_k30.2.2.1.2 (by rw [vp_in_iff]; have := iv_3; omega) ?_
  refine k_to a_4 ea_4.symm ?_
  refine lm_length (st := []) a_4 X hm dL_law_k30.2.2.2.1 mw905 (Nat.le_of_ble_eq_true rfl) (Nat.le_of_ble_eq_true rfl) (Nat.le_of_ble_eq_true rfl) (Nat.le_trans h1 (Nat.le_of_ble_eq_true rfl)) (Nat.le_trans h2 (Nat.le_of_ble_eq_true rfl)) (fun r_8 mw_9 hm_10 => ?_)
  refine k_pop X dL_law_k30.2.2.2.2 rfl ?_
  refine k_goto 2062 X dL_law_k31 (jp_e rfl) ?_
  exact kk _ _ _ _ _ _ _ _ _ _ _ _ _ _ _ _ _ _ _ _ _ _ _ _ _ _ _ _ _ _ _ _ _ _ _ _ _ _ _ _ hx_7 hm_10 hR

theorem dL_law_k32 : ((((dD cL_law 808 (.aload_n 1) 1 ∧ dD cL_law 809 (.aload_n 0) 1) ∧ (dD cL_law 810 (.iload 4) 2 ∧ dD cL_law 812 (.iconst 1) 1)) ∧ ((dD cL_law 813 .iadd 1 ∧ dD cL_law 814 .iaload 1) ∧ (dD cL_law 815 (.aload_n 0) 1 ∧ dD cL_law 816 (.iload 4) 2))) ∧ (((dD cL_law 818 (.iconst 2) 1 ∧ dD cL_law 819 .iadd 1) ∧ (dD cL_law 820 .iaload 1 ∧ dD cL_law 821 (.invokevirtual 86) 3)) ∧ ((dD cL_law 824 .pop 1 ∧ dD cL_law 825 (.aload_n 2) 1) ∧ (dD cL_law 826 (.aload_n 0) 1 ∧ dD cL_law 827 (.iload 4) 2)))) := dkA16 (by decide +kernel)
theorem dL_law_k33 : (((dD cL_law 829 (.iconst 1) 1 ∧ dD cL_law 830 .iadd 1) ∧ (dD cL_law 831 .iaload 1 ∧ (dD cL_law 832 (.aload_n 0) 1 ∧ dD cL_law 833 (.iload 4) 2))) ∧ ((dD cL_law 835 (.iconst 2) 1 ∧ (dD cL_law 836 .iadd 1 ∧ dD cL_law 837 .iaload 1)) ∧ (dD cL_law 838 (.invokevirtual 89) 3 ∧ (dD cL_law 841 .pop 1 ∧ dD cL_law 842 (.goto 1220) 3)))) := dkA11 (by decide +kernel)
set_option maxHeartbeats 4000000 in
set_option maxRecDepth 100000 in
theorem law_c16 {p : Program} {l : Launch} {e : Env} {s : State} {m : MethodId} {below : List Frame} {meth : Method} {c : Code} {A : Nat → Prop} {g : Gx} {b L : Nat} {xs : Nat → Int32} {h0 mo lo n1 n2 : Nat} {fo : Nat → Int64} {u4 : Int32} {xtpd : Int32} {tpf : Nat → Int32} {yhnf : Nat → Int32} {yhtn : Int32} {yhtf : Nat → Int32} {yhjn : Int32} {yhjf : Nat → Int32} {yhmn : Int32} {yhmf : Nat → Int32} {yhbn : Int32} {yhbf : Nat → Int32} {yhsn : Int32} {yhsf : Nat → Int32} {yhcn : Int32} {yhcf : Nat → Int32} {zrn : Int32} {zmn : Int32} {zwn : Int32} {zpn : Int32} {zmd : Int32} {ztr : Int32} {zrf : Nat → Int32} {zmf : Nat → Int32} {zwf : Nat → Int32} {zpf : Nat → Int32} {kac : Int32} {knx : Int32} {kim : Int32} {cf : Nat → SC} {m_taped : Int32} {d_tape : Nat → Int32} {d_r : Nat → Int32} {d_st : Nat → Int32} {d_undone : Nat → Int32} {d_kept : Nat → Int32} {m_undos : Int32} {m_images : Int32} {m_hasHouse : Int32} {xw mw : va_W} (X : Cx p s m meth c #[Value.ref b] cL_law 7 RL A g) (hX : va_X b L xs s s.heap) (hbl : b < s.heap.size) (hbA : ¬ A b) (hi : 0 ≤ u4.toInt ∧ u4.toInt + 6 ≤ (L : Int)) (hL : L ≤ 3072) (h1 : n1 ≤ 601023) (h2 : n2 ≤ 7293028) (hlt : l.stackTraces = false) (hZ : kZ A s s.heap) (htsE : ∀ w ∈ wsE, w.before #[Value.ref b] s = true) (hx : XW g h0 xtpd tpf yhnf yhtn yhtf yhjn yhjf yhmn yhmf yhbn yhbf yhsn yhsf yhcn yhcf zrn zmn zwn zpn zmd ztr zrf zmf zwf zpf kac knx kim cf xw) (hm : MW g mo m_taped d_tape d_r d_st d_undone d_kept m_undos m_images m_hasHouse mw) (hR : LR xtpd tpf yhnf yhtn yhtf yhjn yhjf yhmn yhmf yhbn yhbf yhsn yhsf yhcn yhcf zrn zmn zwn zpn zmd ztr zrf zmf zwf zpf kac knx kim cf m_taped d_tape d_r d_st d_undone d_kept m_undos m_images m_hasHouse) (kk : ∀ (xtpd_2 : Int32) (tpf_2 : Nat → Int32) (yhnf_2 : Nat → Int32) (yhtn_2 : Int32) (yhtf_2 : Nat → Int32) (yhjn_2 : Int32) (yhjf_2 : Nat → Int32) (yhmn_2 : Int32) (yhmf_2 : Nat → Int32) (yhbn_2 : Int32) (yhbf_2 : Nat → Int32) (yhsn_2 : Int32) (yhsf_2 : Nat → Int32) (yhcn_2 : Int32) (yhcf_2 : Nat → Int32) (zrn_2 : Int32) (zmn_2 : Int32) (zwn_2 : Int32) (zpn_2 : Int32) (zmd_2 : Int32) (ztr_2 : Int32) (zrf_2 : Nat → Int32) (zmf_2 : Nat → Int32) (zwf_2 : Nat → Int32) (zpf_2 : Nat → Int32) (kac_2 : Int32) (knx_2 : Int32) (kim_2 : Int32) (cf_2 : Nat → SC) (m_taped_2 : Int32) (d_tape_2 : Nat → Int32) (d_r_2 : Nat → Int32) (d_st_2 : Nat → Int32) (d_undone_2 : Nat → Int32) (d_kept_2 : Nat → Int32) (m_undos_2 : Int32) (m_images_2 : Int32) (m_hasHouse_2 : Int32) (xw2 mw2 : va_W), XW g h0 xtpd_2 tpf_2 yhnf_2 yhtn_2 yhtf_2 yhjn_2 yhjf_2 yhmn_2 yhmf_2 yhbn_2 yhbf_2 yhsn_2 yhsf_2 yhcn_2 yhcf_2 zrn_2 zmn_2 zwn_2 zpn_2 zmd_2 ztr_2 zrf_2 zmf_2 zwf_2 zpf_2 kac_2 knx_2 kim_2 cf_2 xw2 → MW g mo m_taped_2 d_tape_2 d_r_2 d_st_2 d_undone_2 d_kept_2 m_undos_2 m_images_2 m_hasHouse_2 mw2 → LR xtpd_2 tpf_2 yhnf_2 yhtn_2 yhtf_2 yhjn_2 yhjf_2 yhmn_2 yhmf_2 yhbn_2 yhbf_2 yhsn_2 yhsf_2 yhcn_2 yhcf_2 zrn_2 zmn_2 zwn_2 zpn_2 zmd_2 ztr_2 zrf_2 zmf_2 zwf_2 zpf_2 kac_2 knx_2 kim_2 cf_2 m_taped_2 d_tape_2 d_r_2 d_st_2 d_undone_2 d_kept_2 m_undos_2 m_images_2 m_hasHouse_2 → Wk p l e room_1 s m #[Value.ref b] below meth c (lw_Z below #[Value.ref b] s) A g 7 n1 n2 (xw2 ++ (mw2 ++ [(cAJ g lo 1 fo)])) [(4, .int u4), (3, .ref lo), (2, .ref mo), (1, .ref h0), (0, .ref b)] 2062 []) : Wk p l e room_1 s m #[Value.ref b] below meth c (lw_Z below #[Value.ref b] s) A g 7 n1 n2 (xw ++ (mw ++ [(cAJ g lo 1 fo)])) [(4, .int u4), (3, .ref lo), (2, .ref mo), (1, .ref h0), (0, .ref b)] 808 [] := by
  have hiv : IV u4 0 3066 := ⟨hi.1, by omega⟩
  refine k_aload_n X dL_law_k32.1.1.1.1 3 rfl ?_
  refine k_aload_n X dL_law_k32.1.1.1.2 4 rfl ?_
  refine k_iload X dL_law_k32.1.1.2.1 0 rfl ?_
  refine k_iconst (v := 1) X dL_law_k32.1.1.2.2 ic_1 ?_
  refine k_iadd X dL_law_k32.1.2.1.1 ?_
  refine k_nm (fun z_1 ez_1 => ?_)
  have i_2 : z_1.toInt = u4.toInt + 1 := in_add ez_1 hiv iq_1_1_1 (zle_e rfl) (zle_e rfl)
  have iv_3 : IV z_1 1 3067 := by have := hiv; have := iq_1_1_1; rw [IV, i_2]; omega
  refine k_sld X hX hbl hbA dL_law_k32.1.2.1.2 (by rw [vp_in_iff]; have := iv_3; omega) ?_
  refine k_nm (fun a_4 ea_4 => ?_)
  refine k_aload_n X dL_law_k32.1.2.2.1 4 rfl ?_
  refine k_iload X dL_law_k32.1.2.2.2 0 rfl ?_
  refine k_iconst (v := 2) X dL_law_k32.2.1.1.1 ic_2 ?_
  refine k_iadd X dL_law_k32.2.1.1.2 ?_
  refine k_nm (fun z_5 ez_5 => ?_)
  have i_6 : z_5.toInt = u4.toInt + 2 := in_add ez_5 hiv iq_2_2_2 (zle_e rfl) (zle_e rfl)
  have iv_7 : IV z_5 2 3068 := by have := hiv; have := iq_2_2_2; rw [IV, i_6]; omega
  refine k_sld X hX hbl hbA dL_law_k32.2.1.2.1 (by rw [vp_in_iff]; have := iv_7; omega) ?_
  refine k_nm (fun a_8 ea_8 => ?_)
  refine lx_all (st := []) a_4 a_8 X hx dL_law_k32.2.1.2.2 mw909 (Nat.le_of_ble_eq_true rfl) (Nat.le_of_ble_eq_true rfl) (Nat.le_of_ble_eq_true rfl) (Nat.le_trans h1 (Nat.le_of_ble_eq_true rfl)) (Nat.le_trans h2 (Nat.le_of_ble_eq_true rfl)) (fun r_9 xw_10 hx_11 => ?_)
  refine k_pop X dL_law_k32.2.2.1.1 rfl ?_
  refine k_aload_n X dL_law_k32.2.2.1.2 2 rfl ?_
  refine k_aload_n X dL_law_k32.2.2.2.1 4 rfl ?_
  refine k_iload X dL_law_k32.2.2.2.2 0 rfl ?_
  refine k_iconst (v := 1) X dL_law_k33.1.1.1 ic_1 ?_
  refine k_iadd X dL_law_k33.1.1.2 ?_
  refine k_to z_1 ez_1.symm ?_
  refine k_sld X hX hbl hbA dL_law_k33.1.2.1 (by rw [vp_in_iff]; have := iv_3; omega) ?_
  refine k_to a_4 ea_4.symm ?_
  refine k_aload_n X dL_law_k33.1.2.2.1 4 rfl ?_
  refine k_iload X dL_law_k33.1.2.2.2 0 rfl ?_
  refine k_iconst (v := 2) X dL_law_k33.2.1.1 ic_2 ?_
  refine k_iadd X dL_law_k33.2.1.2.1 ?_
  refine k_to z_5 ez_5.symm ?_
  refine k_sld X hX hbl hbA dL_law_k33.2.1.2.2 (by rw [vp_in_iff]; have := iv_7; omega) ?_
  refine k_to a_8 ea_8.symm ?_
  refine lm_all (st := []) a_4 a_8 X hm dL_law_k33.2.2.1 mw917 (Nat.le_of_ble_eq_true rfl) (Nat.le_of_ble_eq_true rfl) (Nat.le_of_ble_eq_true rfl) (Nat.le_trans h1 (Nat.le_of_ble_eq_true rfl)) (Nat.le_trans h2 (Nat.le_of_ble_eq_true rfl)) (fun r_12 mw_13 hm_14 => ?_)
  refine k_pop X dL_law_k33.2.2.2.1 rfl ?_
  refine k_goto 2062 X dL_law_k33.2.2.2.2 (jp_e rfl) ?_
  exact kk _ _ _ _ _ _ _ _ _ _ _ _ _ _ _ _ _ _ _ _ _ _ _ _ _ _ _ _ _ _ _ _ _ _ _ _ _ _ _ _ hx_11 hm_14 hR

theorem dL_law_k34 : ((((dD cL_law 845 (.aload_n 1) 1 ∧ dD cL_law 846 (.aload_n 0) 1) ∧ (dD cL_law 847 (.iload 4) 2 ∧ dD cL_law 849 (.iconst 1) 1)) ∧ ((dD cL_law 850 .iadd 1 ∧ dD cL_law 851 .iaload 1) ∧ (dD cL_law 852 (.invokevirtual 90) 3 ∧ dD cL_law 855 .pop 1))) ∧ (((dD cL_law 856 (.aload_n 2) 1 ∧ dD cL_law 857 (.aload_n 0) 1) ∧ (dD cL_law 858 (.iload 4) 2 ∧ dD cL_law 860 (.iconst 1) 1)) ∧ ((dD cL_law 861 .iadd 1 ∧ dD cL_law 862 .iaload 1) ∧ (dD cL_law 863 (.invokevirtual 93) 3 ∧ dD cL_law 866 .pop 1)))) := dkA16 (by decide +kernel)
theorem dL_law_k35 : dD cL_law 867 (.goto 1195) 3 := dkA1 (by decide +kernel)
set_option maxHeartbeats 4000000 in
set_option maxRecDepth 100000 in
theorem law_c17 {p : Program} {l : Launch} {e : Env} {s : State} {m : MethodId} {below : List Frame} {meth : Method} {c : Code} {A : Nat → Prop} {g : Gx} {b L : Nat} {xs : Nat → Int32} {h0 mo lo n1 n2 : Nat} {fo : Nat → Int64} {u4 : Int32} {xtpd : Int32} {tpf : Nat → Int32} {yhnf : Nat → Int32} {yhtn : Int32} {yhtf : Nat → Int32} {yhjn : Int32} {yhjf : Nat → Int32} {yhmn : Int32} {yhmf : Nat → Int32} {yhbn : Int32} {yhbf : Nat → Int32} {yhsn : Int32} {yhsf : Nat → Int32} {yhcn : Int32} {yhcf : Nat → Int32} {zrn : Int32} {zmn : Int32} {zwn : Int32} {zpn : Int32} {zmd : Int32} {ztr : Int32} {zrf : Nat → Int32} {zmf : Nat → Int32} {zwf : Nat → Int32} {zpf : Nat → Int32} {kac : Int32} {knx : Int32} {kim : Int32} {cf : Nat → SC} {m_taped : Int32} {d_tape : Nat → Int32} {d_r : Nat → Int32} {d_st : Nat → Int32} {d_undone : Nat → Int32} {d_kept : Nat → Int32} {m_undos : Int32} {m_images : Int32} {m_hasHouse : Int32} {xw mw : va_W} (X : Cx p s m meth c #[Value.ref b] cL_law 7 RL A g) (hX : va_X b L xs s s.heap) (hbl : b < s.heap.size) (hbA : ¬ A b) (hi : 0 ≤ u4.toInt ∧ u4.toInt + 6 ≤ (L : Int)) (hL : L ≤ 3072) (h1 : n1 ≤ 601023) (h2 : n2 ≤ 7293028) (hlt : l.stackTraces = false) (hZ : kZ A s s.heap) (htsE : ∀ w ∈ wsE, w.before #[Value.ref b] s = true) (hx : XW g h0 xtpd tpf yhnf yhtn yhtf yhjn yhjf yhmn yhmf yhbn yhbf yhsn yhsf yhcn yhcf zrn zmn zwn zpn zmd ztr zrf zmf zwf zpf kac knx kim cf xw) (hm : MW g mo m_taped d_tape d_r d_st d_undone d_kept m_undos m_images m_hasHouse mw) (hR : LR xtpd tpf yhnf yhtn yhtf yhjn yhjf yhmn yhmf yhbn yhbf yhsn yhsf yhcn yhcf zrn zmn zwn zpn zmd ztr zrf zmf zwf zpf kac knx kim cf m_taped d_tape d_r d_st d_undone d_kept m_undos m_images m_hasHouse) (kk : ∀ (xtpd_2 : Int32) (tpf_2 : Nat → Int32) (yhnf_2 : Nat → Int32) (yhtn_2 : Int32) (yhtf_2 : Nat → Int32) (yhjn_2 : Int32) (yhjf_2 : Nat → Int32) (yhmn_2 : Int32) (yhmf_2 : Nat → Int32) (yhbn_2 : Int32) (yhbf_2 : Nat → Int32) (yhsn_2 : Int32) (yhsf_2 : Nat → Int32) (yhcn_2 : Int32) (yhcf_2 : Nat → Int32) (zrn_2 : Int32) (zmn_2 : Int32) (zwn_2 : Int32) (zpn_2 : Int32) (zmd_2 : Int32) (ztr_2 : Int32) (zrf_2 : Nat → Int32) (zmf_2 : Nat → Int32) (zwf_2 : Nat → Int32) (zpf_2 : Nat → Int32) (kac_2 : Int32) (knx_2 : Int32) (kim_2 : Int32) (cf_2 : Nat → SC) (m_taped_2 : Int32) (d_tape_2 : Nat → Int32) (d_r_2 : Nat → Int32) (d_st_2 : Nat → Int32) (d_undone_2 : Nat → Int32) (d_kept_2 : Nat → Int32) (m_undos_2 : Int32) (m_images_2 : Int32) (m_hasHouse_2 : Int32) (xw2 mw2 : va_W), XW g h0 xtpd_2 tpf_2 yhnf_2 yhtn_2 yhtf_2 yhjn_2 yhjf_2 yhmn_2 yhmf_2 yhbn_2 yhbf_2 yhsn_2 yhsf_2 yhcn_2 yhcf_2 zrn_2 zmn_2 zwn_2 zpn_2 zmd_2 ztr_2 zrf_2 zmf_2 zwf_2 zpf_2 kac_2 knx_2 kim_2 cf_2 xw2 → MW g mo m_taped_2 d_tape_2 d_r_2 d_st_2 d_undone_2 d_kept_2 m_undos_2 m_images_2 m_hasHouse_2 mw2 → LR xtpd_2 tpf_2 yhnf_2 yhtn_2 yhtf_2 yhjn_2 yhjf_2 yhmn_2 yhmf_2 yhbn_2 yhbf_2 yhsn_2 yhsf_2 yhcn_2 yhcf_2 zrn_2 zmn_2 zwn_2 zpn_2 zmd_2 ztr_2 zrf_2 zmf_2 zwf_2 zpf_2 kac_2 knx_2 kim_2 cf_2 m_taped_2 d_tape_2 d_r_2 d_st_2 d_undone_2 d_kept_2 m_undos_2 m_images_2 m_hasHouse_2 → Wk p l e room_1 s m #[Value.ref b] below meth c (lw_Z below #[Value.ref b] s) A g 7 n1 n2 (xw2 ++ (mw2 ++ [(cAJ g lo 1 fo)])) [(4, .int u4), (3, .ref lo), (2, .ref mo), (1, .ref h0), (0, .ref b)] 2062 []) : Wk p l e room_1 s m #[Value.ref b] below meth c (lw_Z below #[Value.ref b] s) A g 7 n1 n2 (xw ++ (mw ++ [(cAJ g lo 1 fo)])) [(4, .int u4), (3, .ref lo), (2, .ref mo), (1, .ref h0), (0, .ref b)] 845 [] := by
  have hiv : IV u4 0 3066 := ⟨hi.1, by omega⟩
  refine k_aload_n X dL_law_k34.1.1.1.1 3 rfl ?_
  refine k_aload_n X dL_law_k34.1.1.1.2 4 rfl ?_
  refine k_iload X dL_law_k34.1.1.2.1 0 rfl ?_
  refine k_iconst (v := 1) X dL_law_k34.1.1.2.2 ic_1 ?_
  refine k_iadd X dL_law_k34.1.2.1.1 ?_
  refine k_nm (fun z_1 ez_1 => ?_)
  have i_2 : z_1.toInt = u4.toInt + 1 := in_add ez_1 hiv iq_1_1_1 (zle_e rfl) (zle_e rfl)
  have iv_3 : IV z_1 1 3067 := by have := hiv; have := iq_1_1_1; rw [IV, i_2]; omega
  refine k_sld X hX hbl hbA dL_law_k34.1.2.1.2 (by rw [vp_in_iff]; have := iv_3; omega) ?_
  refine k_nm (fun a_4 ea_4 => ?_)
  refine lx_worst (st := []) a_4 X hx dL_law_k34.1.2.2.1 mw925 (Nat.le_of_ble_eq_true rfl) (Nat.le_of_ble_eq_true rfl) (Nat.le_of_ble_eq_true rfl) (Nat.le_trans h1 (Nat.le_of_ble_eq_true rfl)) (Nat.le_trans h2 (Nat.le_of_ble_eq_true rfl)) (fun r_5 xw_6 hx_7 => ?_)
  refine k_pop X dL_law_k34.1.2.2.2 rfl ?_
  refine k_aload_n X dL_law_k34.2.1.1.1 2 rfl ?_
  refine k_aload_n X dL_law_k34.2.1.1.2 4 rfl ?_
  refine k_iload X dL_law_k34.2.1.2.1 0 rfl ?_
  refine k_iconst (v := 1) X dL_law_k34.2.1.2.2 ic_1 ?_
  refine k_iadd X dL_law_k34.2.2.1.1 ?_
  refine k_to z_1 ez_1.symm ?_
  refine k_sld X hX hbl hbA dL_law_k34.2.2.1.2 (by rw [vp_in_iff]; have := iv_3; omega) ?_
  refine k_to a_4 ea_4.symm ?_
  refine lm_worst (st := []) a_4 X hm dL_law_k34.2.2.2.1 mw933 (Nat.le_of_ble_eq_true rfl) (Nat.le_of_ble_eq_true rfl) (Nat.le_of_ble_eq_true rfl) (Nat.le_trans h1 (Nat.le_of_ble_eq_true rfl)) (Nat.le_trans h2 (Nat.le_of_ble_eq_true rfl)) (fun r_8 mw_9 hm_10 => ?_)
  refine k_pop X dL_law_k34.2.2.2.2 rfl ?_
  refine k_goto 2062 X dL_law_k35 (jp_e rfl) ?_
  exact kk _ _ _ _ _ _ _ _ _ _ _ _ _ _ _ _ _ _ _ _ _ _ _ _ _ _ _ _ _ _ _ _ _ _ _ _ _ _ _ _ hx_7 hm_10 hR

theorem dL_law_k36 : ((((dD cL_law 870 (.aload_n 1) 1 ∧ dD cL_law 871 (.aload_n 0) 1) ∧ (dD cL_law 872 (.iload 4) 2 ∧ dD cL_law 874 (.iconst 1) 1)) ∧ ((dD cL_law 875 .iadd 1 ∧ dD cL_law 876 .iaload 1) ∧ (dD cL_law 877 (.aload_n 0) 1 ∧ dD cL_law 878 (.iload 4) 2))) ∧ (((dD cL_law 880 (.iconst 2) 1 ∧ dD cL_law 881 .iadd 1) ∧ (dD cL_law 882 .iaload 1 ∧ dD cL_law 883 (.invokevirtual 94) 3)) ∧ ((dD cL_law 886 .pop 1 ∧ dD cL_law 887 (.aload_n 2) 1) ∧ (dD cL_law 888 (.aload_n 0) 1 ∧ dD cL_law 889 (.iload 4) 2)))) := dkA16 (by decide +kernel)
theorem dL_law_k37 : (((dD cL_law 891 (.iconst 1) 1 ∧ dD cL_law 892 .iadd 1) ∧ (dD cL_law 893 .iaload 1 ∧ (dD cL_law 894 (.aload_n 0) 1 ∧ dD cL_law 895 (.iload 4) 2))) ∧ ((dD cL_law 897 (.iconst 2) 1 ∧ (dD cL_law 898 .iadd 1 ∧ dD cL_law 899 .iaload 1)) ∧ (dD cL_law 900 (.invokevirtual 97) 3 ∧ (dD cL_law 903 .pop 1 ∧ dD cL_law 904 (.goto 1158) 3)))) := dkA11 (by decide +kernel)
set_option maxHeartbeats 4000000 in
set_option maxRecDepth 100000 in
theorem law_c18 {p : Program} {l : Launch} {e : Env} {s : State} {m : MethodId} {below : List Frame} {meth : Method} {c : Code} {A : Nat → Prop} {g : Gx} {b L : Nat} {xs : Nat → Int32} {h0 mo lo n1 n2 : Nat} {fo : Nat → Int64} {u4 : Int32} {xtpd : Int32} {tpf : Nat → Int32} {yhnf : Nat → Int32} {yhtn : Int32} {yhtf : Nat → Int32} {yhjn : Int32} {yhjf : Nat → Int32} {yhmn : Int32} {yhmf : Nat → Int32} {yhbn : Int32} {yhbf : Nat → Int32} {yhsn : Int32} {yhsf : Nat → Int32} {yhcn : Int32} {yhcf : Nat → Int32} {zrn : Int32} {zmn : Int32} {zwn : Int32} {zpn : Int32} {zmd : Int32} {ztr : Int32} {zrf : Nat → Int32} {zmf : Nat → Int32} {zwf : Nat → Int32} {zpf : Nat → Int32} {kac : Int32} {knx : Int32} {kim : Int32} {cf : Nat → SC} {m_taped : Int32} {d_tape : Nat → Int32} {d_r : Nat → Int32} {d_st : Nat → Int32} {d_undone : Nat → Int32} {d_kept : Nat → Int32} {m_undos : Int32} {m_images : Int32} {m_hasHouse : Int32} {xw mw : va_W} (X : Cx p s m meth c #[Value.ref b] cL_law 7 RL A g) (hX : va_X b L xs s s.heap) (hbl : b < s.heap.size) (hbA : ¬ A b) (hi : 0 ≤ u4.toInt ∧ u4.toInt + 6 ≤ (L : Int)) (hL : L ≤ 3072) (h1 : n1 ≤ 601023) (h2 : n2 ≤ 7293028) (hlt : l.stackTraces = false) (hZ : kZ A s s.heap) (htsE : ∀ w ∈ wsE, w.before #[Value.ref b] s = true) (hx : XW g h0 xtpd tpf yhnf yhtn yhtf yhjn yhjf yhmn yhmf yhbn yhbf yhsn yhsf yhcn yhcf zrn zmn zwn zpn zmd ztr zrf zmf zwf zpf kac knx kim cf xw) (hm : MW g mo m_taped d_tape d_r d_st d_undone d_kept m_undos m_images m_hasHouse mw) (hR : LR xtpd tpf yhnf yhtn yhtf yhjn yhjf yhmn yhmf yhbn yhbf yhsn yhsf yhcn yhcf zrn zmn zwn zpn zmd ztr zrf zmf zwf zpf kac knx kim cf m_taped d_tape d_r d_st d_undone d_kept m_undos m_images m_hasHouse) (kk : ∀ (xtpd_2 : Int32) (tpf_2 : Nat → Int32) (yhnf_2 : Nat → Int32) (yhtn_2 : Int32) (yhtf_2 : Nat → Int32) (yhjn_2 : Int32) (yhjf_2 : Nat → Int32) (yhmn_2 : Int32) (yhmf_2 : Nat → Int32) (yhbn_2 : Int32) (yhbf_2 : Nat → Int32) (yhsn_2 : Int32) (yhsf_2 : Nat → Int32) (yhcn_2 : Int32) (yhcf_2 : Nat → Int32) (zrn_2 : Int32) (zmn_2 : Int32) (zwn_2 : Int32) (zpn_2 : Int32) (zmd_2 : Int32) (ztr_2 : Int32) (zrf_2 : Nat → Int32) (zmf_2 : Nat → Int32) (zwf_2 : Nat → Int32) (zpf_2 : Nat → Int32) (kac_2 : Int32) (knx_2 : Int32) (kim_2 : Int32) (cf_2 : Nat → SC) (m_taped_2 : Int32) (d_tape_2 : Nat → Int32) (d_r_2 : Nat → Int32) (d_st_2 : Nat → Int32) (d_undone_2 : Nat → Int32) (d_kept_2 : Nat → Int32) (m_undos_2 : Int32) (m_images_2 : Int32) (m_hasHouse_2 : Int32) (xw2 mw2 : va_W), XW g h0 xtpd_2 tpf_2 yhnf_2 yhtn_2 yhtf_2 yhjn_2 yhjf_2 yhmn_2 yhmf_2 yhbn_2 yhbf_2 yhsn_2 yhsf_2 yhcn_2 yhcf_2 zrn_2 zmn_2 zwn_2 zpn_2 zmd_2 ztr_2 zrf_2 zmf_2 zwf_2 zpf_2 kac_2 knx_2 kim_2 cf_2 xw2 → MW g mo m_taped_2 d_tape_2 d_r_2 d_st_2 d_undone_2 d_kept_2 m_undos_2 m_images_2 m_hasHouse_2 mw2 → LR xtpd_2 tpf_2 yhnf_2 yhtn_2 yhtf_2 yhjn_2 yhjf_2 yhmn_2 yhmf_2 yhbn_2 yhbf_2 yhsn_2 yhsf_2 yhcn_2 yhcf_2 zrn_2 zmn_2 zwn_2 zpn_2 zmd_2 ztr_2 zrf_2 zmf_2 zwf_2 zpf_2 kac_2 knx_2 kim_2 cf_2 m_taped_2 d_tape_2 d_r_2 d_st_2 d_undone_2 d_kept_2 m_undos_2 m_images_2 m_hasHouse_2 → Wk p l e room_1 s m #[Value.ref b] below meth c (lw_Z below #[Value.ref b] s) A g 7 n1 n2 (xw2 ++ (mw2 ++ [(cAJ g lo 1 fo)])) [(4, .int u4), (3, .ref lo), (2, .ref mo), (1, .ref h0), (0, .ref b)] 2062 []) : Wk p l e room_1 s m #[Value.ref b] below meth c (lw_Z below #[Value.ref b] s) A g 7 n1 n2 (xw ++ (mw ++ [(cAJ g lo 1 fo)])) [(4, .int u4), (3, .ref lo), (2, .ref mo), (1, .ref h0), (0, .ref b)] 870 [] := by
  have hiv : IV u4 0 3066 := ⟨hi.1, by omega⟩
  refine k_aload_n X dL_law_k36.1.1.1.1 3 rfl ?_
  refine k_aload_n X dL_law_k36.1.1.1.2 4 rfl ?_
  refine k_iload X dL_law_k36.1.1.2.1 0 rfl ?_
  refine k_iconst (v := 1) X dL_law_k36.1.1.2.2 ic_1 ?_
  refine k_iadd X dL_law_k36.1.2.1.1 ?_
  refine k_nm (fun z_1 ez_1 => ?_)
  have i_2 : z_1.toInt = u4.toInt + 1 := in_add ez_1 hiv iq_1_1_1 (zle_e rfl) (zle_e rfl)
  have iv_3 : IV z_1 1 3067 := by have := hiv; have := iq_1_1_1; rw [IV, i_2]; omega
  refine k_sld X hX hbl hbA dL_law_k36.1.2.1.2 (by rw [vp_in_iff]; have := iv_3; omega) ?_
  refine k_nm (fun a_4 ea_4 => ?_)
  refine k_aload_n X dL_law_k36.1.2.2.1 4 rfl ?_
  refine k_iload X dL_law_k36.1.2.2.2 0 rfl ?_
  refine k_iconst (v := 2) X dL_law_k36.2.1.1.1 ic_2 ?_
  refine k_iadd X dL_law_k36.2.1.1.2 ?_
  refine k_nm (fun z_5 ez_5 => ?_)
  have i_6 : z_5.toInt = u4.toInt + 2 := in_add ez_5 hiv iq_2_2_2 (zle_e rfl) (zle_e rfl)
  have iv_7 : IV z_5 2 3068 := by have := hiv; have := iq_2_2_2; rw [IV, i_6]; omega
  refine k_sld X hX hbl hbA dL_law_k36.2.1.2.1 (by rw [vp_in_iff]; have := iv_7; omega) ?_
  refine k_nm (fun a_8 ea_8 => ?_)
  refine lx_exact (st := []) a_4 a_8 X hx dL_law_k36.2.1.2.2 mw937 (Nat.le_of_ble_eq_true rfl) (Nat.le_of_ble_eq_true rfl) (Nat.le_of_ble_eq_true rfl) (Nat.le_trans h1 (Nat.le_of_ble_eq_true rfl)) (Nat.le_trans h2 (Nat.le_of_ble_eq_true rfl)) (fun r_9 xw_10 hx_11 => ?_)
  refine k_pop X dL_law_k36.2.2.1.1 rfl ?_
  refine k_aload_n X dL_law_k36.2.2.1.2 2 rfl ?_
  refine k_aload_n X dL_law_k36.2.2.2.1 4 rfl ?_
  refine k_iload X dL_law_k36.2.2.2.2 0 rfl ?_
  refine k_iconst (v := 1) X dL_law_k37.1.1.1 ic_1 ?_
  refine k_iadd X dL_law_k37.1.1.2 ?_
  refine k_to z_1 ez_1.symm ?_
  refine k_sld X hX hbl hbA dL_law_k37.1.2.1 (by rw [vp_in_iff]; have := iv_3; omega) ?_
  refine k_to a_4 ea_4.symm ?_
  refine k_aload_n X dL_law_k37.1.2.2.1 4 rfl ?_
  refine k_iload X dL_law_k37.1.2.2.2 0 rfl ?_
  refine k_iconst (v := 2) X dL_law_k37.2.1.1 ic_2 ?_
  refine k_iadd X dL_law_k37.2.1.2.1 ?_
  refine k_to z_5 ez_5.symm ?_
  refine k_sld X hX hbl hbA dL_law_k37.2.1.2.2 (by rw [vp_in_iff]; have := iv_7; omega) ?_
  refine k_to a_8 ea_8.symm ?_
  refine lm_exact (st := []) a_4 a_8 X hm dL_law_k37.2.2.1 mw945 (Nat.le_of_ble_eq_true rfl) (Nat.le_of_ble_eq_true rfl) (Nat.le_of_ble_eq_true rfl) (Nat.le_trans h1 (Nat.le_of_ble_eq_true rfl)) (Nat.le_trans h2 (Nat.le_of_ble_eq_true rfl)) (fun r_12 mw_13 hm_14 => ?_)
  refine k_pop X dL_law_k37.2.2.2.1 rfl ?_
  refine k_goto 2062 X dL_law_k37.2.2.2.2 (jp_e rfl) ?_
  exact kk _ _ _ _ _ _ _ _ _ _ _ _ _ _ _ _ _ _ _ _ _ _ _ _ _ _ _ _ _ _ _ _ _ _ _ _ _ _ _ _ hx_11 hm_14 hR

theorem dL_law_k38 : ((((dD cL_law 907 (.aload_n 1) 1 ∧ dD cL_law 908 (.aload_n 0) 1) ∧ (dD cL_law 909 (.iload 4) 2 ∧ dD cL_law 911 (.iconst 1) 1)) ∧ ((dD cL_law 912 .iadd 1 ∧ dD cL_law 913 .iaload 1) ∧ (dD cL_law 914 (.invokevirtual 98) 3 ∧ dD cL_law 917 .pop 1))) ∧ (((dD cL_law 918 (.aload_n 2) 1 ∧ dD cL_law 919 (.aload_n 0) 1) ∧ (dD cL_law 920 (.iload 4) 2 ∧ dD cL_law 922 (.iconst 1) 1)) ∧ ((dD cL_law 923 .iadd 1 ∧ dD cL_law 924 .iaload 1) ∧ (dD cL_law 925 (.invokevirtual 101) 3 ∧ dD cL_law 928 .pop 1)))) := dkA16 (by decide +kernel)
theorem dL_law_k39 : dD cL_law 929 (.goto 1133) 3 := dkA1 (by decide +kernel)
set_option maxHeartbeats 4000000 in
set_option maxRecDepth 100000 in
theorem law_c19 {p : Program} {l : Launch} {e : Env} {s : State} {m : MethodId} {below : List Frame} {meth : Method} {c : Code} {A : Nat → Prop} {g : Gx} {b L : Nat} {xs : Nat → Int32} {h0 mo lo n1 n2 : Nat} {fo : Nat → Int64} {u4 : Int32} {xtpd : Int32} {tpf : Nat → Int32} {yhnf : Nat → Int32} {yhtn : Int32} {yhtf : Nat → Int32} {yhjn : Int32} {yhjf : Nat → Int32} {yhmn : Int32} {yhmf : Nat → Int32} {yhbn : Int32} {yhbf : Nat → Int32} {yhsn : Int32} {yhsf : Nat → Int32} {yhcn : Int32} {yhcf : Nat → Int32} {zrn : Int32} {zmn : Int32} {zwn : Int32} {zpn : Int32} {zmd : Int32} {ztr : Int32} {zrf : Nat → Int32} {zmf : Nat → Int32} {zwf : Nat → Int32} {zpf : Nat → Int32} {kac : Int32} {knx : Int32} {kim : Int32} {cf : Nat → SC} {m_taped : Int32} {d_tape : Nat → Int32} {d_r : Nat → Int32} {d_st : Nat → Int32} {d_undone : Nat → Int32} {d_kept : Nat → Int32} {m_undos : Int32} {m_images : Int32} {m_hasHouse : Int32} {xw mw : va_W} (X : Cx p s m meth c #[Value.ref b] cL_law 7 RL A g) (hX : va_X b L xs s s.heap) (hbl : b < s.heap.size) (hbA : ¬ A b) (hi : 0 ≤ u4.toInt ∧ u4.toInt + 6 ≤ (L : Int)) (hL : L ≤ 3072) (h1 : n1 ≤ 601023) (h2 : n2 ≤ 7293028) (hlt : l.stackTraces = false) (hZ : kZ A s s.heap) (htsE : ∀ w ∈ wsE, w.before #[Value.ref b] s = true) (hx : XW g h0 xtpd tpf yhnf yhtn yhtf yhjn yhjf yhmn yhmf yhbn yhbf yhsn yhsf yhcn yhcf zrn zmn zwn zpn zmd ztr zrf zmf zwf zpf kac knx kim cf xw) (hm : MW g mo m_taped d_tape d_r d_st d_undone d_kept m_undos m_images m_hasHouse mw) (hR : LR xtpd tpf yhnf yhtn yhtf yhjn yhjf yhmn yhmf yhbn yhbf yhsn yhsf yhcn yhcf zrn zmn zwn zpn zmd ztr zrf zmf zwf zpf kac knx kim cf m_taped d_tape d_r d_st d_undone d_kept m_undos m_images m_hasHouse) (kk : ∀ (xtpd_2 : Int32) (tpf_2 : Nat → Int32) (yhnf_2 : Nat → Int32) (yhtn_2 : Int32) (yhtf_2 : Nat → Int32) (yhjn_2 : Int32) (yhjf_2 : Nat → Int32) (yhmn_2 : Int32) (yhmf_2 : Nat → Int32) (yhbn_2 : Int32) (yhbf_2 : Nat → Int32) (yhsn_2 : Int32) (yhsf_2 : Nat → Int32) (yhcn_2 : Int32) (yhcf_2 : Nat → Int32) (zrn_2 : Int32) (zmn_2 : Int32) (zwn_2 : Int32) (zpn_2 : Int32) (zmd_2 : Int32) (ztr_2 : Int32) (zrf_2 : Nat → Int32) (zmf_2 : Nat → Int32) (zwf_2 : Nat → Int32) (zpf_2 : Nat → Int32) (kac_2 : Int32) (knx_2 : Int32) (kim_2 : Int32) (cf_2 : Nat → SC) (m_taped_2 : Int32) (d_tape_2 : Nat → Int32) (d_r_2 : Nat → Int32) (d_st_2 : Nat → Int32) (d_undone_2 : Nat → Int32) (d_kept_2 : Nat → Int32) (m_undos_2 : Int32) (m_images_2 : Int32) (m_hasHouse_2 : Int32) (xw2 mw2 : va_W), XW g h0 xtpd_2 tpf_2 yhnf_2 yhtn_2 yhtf_2 yhjn_2 yhjf_2 yhmn_2 yhmf_2 yhbn_2 yhbf_2 yhsn_2 yhsf_2 yhcn_2 yhcf_2 zrn_2 zmn_2 zwn_2 zpn_2 zmd_2 ztr_2 zrf_2 zmf_2 zwf_2 zpf_2 kac_2 knx_2 kim_2 cf_2 xw2 → MW g mo m_taped_2 d_tape_2 d_r_2 d_st_2 d_undone_2 d_kept_2 m_undos_2 m_images_2 m_hasHouse_2 mw2 → LR xtpd_2 tpf_2 yhnf_2 yhtn_2 yhtf_2 yhjn_2 yhjf_2 yhmn_2 yhmf_2 yhbn_2 yhbf_2 yhsn_2 yhsf_2 yhcn_2 yhcf_2 zrn_2 zmn_2 zwn_2 zpn_2 zmd_2 ztr_2 zrf_2 zmf_2 zwf_2 zpf_2 kac_2 knx_2 kim_2 cf_2 m_taped_2 d_tape_2 d_r_2 d_st_2 d_undone_2 d_kept_2 m_undos_2 m_images_2 m_hasHouse_2 → Wk p l e room_1 s m #[Value.ref b] below meth c (lw_Z below #[Value.ref b] s) A g 7 n1 n2 (xw2 ++ (mw2 ++ [(cAJ g lo 1 fo)])) [(4, .int u4), (3, .ref lo), (2, .ref mo), (1, .ref h0), (0, .ref b)] 2062 []) : Wk p l e room_1 s m #[Value.ref b] below meth c (lw_Z below #[Value.ref b] s) A g 7 n1 n2 (xw ++ (mw ++ [(cAJ g lo 1 fo)])) [(4, .int u4), (3, .ref lo), (2, .ref mo), (1, .ref h0), (0, .ref b)] 907 [] := by
  have hiv : IV u4 0 3066 := ⟨hi.1, by omega⟩
  refine k_aload_n X dL_law_k38.1.1.1.1 3 rfl ?_
  refine k_aload_n X dL_law_k38.1.1.1.2 4 rfl ?_
  refine k_iload X dL_law_k38.1.1.2.1 0 rfl ?_
  refine k_iconst (v := 1) X dL_law_k38.1.1.2.2 ic_1 ?_
  refine k_iadd X dL_law_k38.1.2.1.1 ?_
  refine k_nm (fun z_1 ez_1 => ?_)
  have i_2 : z_1.toInt = u4.toInt + 1 := in_add ez_1 hiv iq_1_1_1 (zle_e rfl) (zle_e rfl)
  have iv_3 : IV z_1 1 3067 := by have := hiv; have := iq_1_1_1; rw [IV, i_2]; omega
  refine k_sld X hX hbl hbA dL_law_k38.1.2.1.2 (by rw [vp_in_iff]; have := iv_3; omega) ?_
  refine k_nm (fun a_4 ea_4 => ?_)
  refine lx_signs (st := []) a_4 X hx dL_law_k38.1.2.2.1 mw949 (Nat.le_of_ble_eq_true rfl) (Nat.le_of_ble_eq_true rfl) (Nat.le_of_ble_eq_true rfl) (Nat.le_trans h1 (Nat.le_of_ble_eq_true rfl)) (Nat.le_trans h2 (Nat.le_of_ble_eq_true rfl)) (fun r_5 xw_6 hx_7 => ?_)
  refine k_pop X dL_law_k38.1.2.2.2 rfl ?_
  refine k_aload_n X dL_law_k38.2.1.1.1 2 rfl ?_
  refine k_aload_n X dL_law_k38.2.1.1.2 4 rfl ?_
  refine k_iload X dL_law_k38.2.1.2.1 0 rfl ?_
  refine k_iconst (v := 1) X dL_law_k38.2.1.2.2 ic_1 ?_
  refine k_iadd X dL_law_k38.2.2.1.1 ?_
  refine k_to z_1 ez_1.symm ?_
  refine k_sld X hX hbl hbA dL_law_k38.2.2.1.2 (by rw [vp_in_iff]; have := iv_3; omega) ?_
  refine k_to a_4 ea_4.symm ?_
  refine lm_signs (st := []) a_4 X hm dL_law_k38.2.2.2.1 mw958 (Nat.le_of_ble_eq_true rfl) (Nat.le_of_ble_eq_true rfl) (Nat.le_of_ble_eq_true rfl) (Nat.le_trans h1 (Nat.le_of_ble_eq_true rfl)) (Nat.le_trans h2 (Nat.le_of_ble_eq_true rfl)) (fun r_8 mw_9 hm_10 => ?_)
  refine k_pop X dL_law_k38.2.2.2.2 rfl ?_
  refine k_goto 2062 X dL_law_k39 (jp_e rfl) ?_
  exact kk _ _ _ _ _ _ _ _ _ _ _ _ _ _ _ _ _ _ _ _ _ _ _ _ _ _ _ _ _ _ _ _ _ _ _ _ _ _ _ _ hx_7 hm_10 hR

theorem dL_law_k40 : ((dD cL_law 932 (.aload_n 1) 1 ∧ (dD cL_law 933 (.invokevirtual 102) 3 ∧ dD cL_law 936 .pop 1)) ∧ ((dD cL_law 937 (.aload_n 2) 1 ∧ dD cL_law 938 (.invokevirtual 105) 3) ∧ (dD cL_law 941 .pop 1 ∧ dD cL_law 942 (.goto 1120) 3))) := dkA7 (by decide +kernel)
set_option maxHeartbeats 4000000 in
set_option maxRecDepth 100000 in
theorem law_c20 {p : Program} {l : Launch} {e : Env} {s : State} {m : MethodId} {below : List Frame} {meth : Method} {c : Code} {A : Nat → Prop} {g : Gx} {b L : Nat} {xs : Nat → Int32} {h0 mo lo n1 n2 : Nat} {fo : Nat → Int64} {u4 : Int32} {xtpd : Int32} {tpf : Nat → Int32} {yhnf : Nat → Int32} {yhtn : Int32} {yhtf : Nat → Int32} {yhjn : Int32} {yhjf : Nat → Int32} {yhmn : Int32} {yhmf : Nat → Int32} {yhbn : Int32} {yhbf : Nat → Int32} {yhsn : Int32} {yhsf : Nat → Int32} {yhcn : Int32} {yhcf : Nat → Int32} {zrn : Int32} {zmn : Int32} {zwn : Int32} {zpn : Int32} {zmd : Int32} {ztr : Int32} {zrf : Nat → Int32} {zmf : Nat → Int32} {zwf : Nat → Int32} {zpf : Nat → Int32} {kac : Int32} {knx : Int32} {kim : Int32} {cf : Nat → SC} {m_taped : Int32} {d_tape : Nat → Int32} {d_r : Nat → Int32} {d_st : Nat → Int32} {d_undone : Nat → Int32} {d_kept : Nat → Int32} {m_undos : Int32} {m_images : Int32} {m_hasHouse : Int32} {xw mw : va_W} (X : Cx p s m meth c #[Value.ref b] cL_law 7 RL A g) (hX : va_X b L xs s s.heap) (hbl : b < s.heap.size) (hbA : ¬ A b) (hi : 0 ≤ u4.toInt ∧ u4.toInt + 6 ≤ (L : Int)) (hL : L ≤ 3072) (h1 : n1 ≤ 601023) (h2 : n2 ≤ 7293028) (hlt : l.stackTraces = false) (hZ : kZ A s s.heap) (htsE : ∀ w ∈ wsE, w.before #[Value.ref b] s = true) (hx : XW g h0 xtpd tpf yhnf yhtn yhtf yhjn yhjf yhmn yhmf yhbn yhbf yhsn yhsf yhcn yhcf zrn zmn zwn zpn zmd ztr zrf zmf zwf zpf kac knx kim cf xw) (hm : MW g mo m_taped d_tape d_r d_st d_undone d_kept m_undos m_images m_hasHouse mw) (hR : LR xtpd tpf yhnf yhtn yhtf yhjn yhjf yhmn yhmf yhbn yhbf yhsn yhsf yhcn yhcf zrn zmn zwn zpn zmd ztr zrf zmf zwf zpf kac knx kim cf m_taped d_tape d_r d_st d_undone d_kept m_undos m_images m_hasHouse) (kk : ∀ (xtpd_2 : Int32) (tpf_2 : Nat → Int32) (yhnf_2 : Nat → Int32) (yhtn_2 : Int32) (yhtf_2 : Nat → Int32) (yhjn_2 : Int32) (yhjf_2 : Nat → Int32) (yhmn_2 : Int32) (yhmf_2 : Nat → Int32) (yhbn_2 : Int32) (yhbf_2 : Nat → Int32) (yhsn_2 : Int32) (yhsf_2 : Nat → Int32) (yhcn_2 : Int32) (yhcf_2 : Nat → Int32) (zrn_2 : Int32) (zmn_2 : Int32) (zwn_2 : Int32) (zpn_2 : Int32) (zmd_2 : Int32) (ztr_2 : Int32) (zrf_2 : Nat → Int32) (zmf_2 : Nat → Int32) (zwf_2 : Nat → Int32) (zpf_2 : Nat → Int32) (kac_2 : Int32) (knx_2 : Int32) (kim_2 : Int32) (cf_2 : Nat → SC) (m_taped_2 : Int32) (d_tape_2 : Nat → Int32) (d_r_2 : Nat → Int32) (d_st_2 : Nat → Int32) (d_undone_2 : Nat → Int32) (d_kept_2 : Nat → Int32) (m_undos_2 : Int32) (m_images_2 : Int32) (m_hasHouse_2 : Int32) (xw2 mw2 : va_W), XW g h0 xtpd_2 tpf_2 yhnf_2 yhtn_2 yhtf_2 yhjn_2 yhjf_2 yhmn_2 yhmf_2 yhbn_2 yhbf_2 yhsn_2 yhsf_2 yhcn_2 yhcf_2 zrn_2 zmn_2 zwn_2 zpn_2 zmd_2 ztr_2 zrf_2 zmf_2 zwf_2 zpf_2 kac_2 knx_2 kim_2 cf_2 xw2 → MW g mo m_taped_2 d_tape_2 d_r_2 d_st_2 d_undone_2 d_kept_2 m_undos_2 m_images_2 m_hasHouse_2 mw2 → LR xtpd_2 tpf_2 yhnf_2 yhtn_2 yhtf_2 yhjn_2 yhjf_2 yhmn_2 yhmf_2 yhbn_2 yhbf_2 yhsn_2 yhsf_2 yhcn_2 yhcf_2 zrn_2 zmn_2 zwn_2 zpn_2 zmd_2 ztr_2 zrf_2 zmf_2 zwf_2 zpf_2 kac_2 knx_2 kim_2 cf_2 m_taped_2 d_tape_2 d_r_2 d_st_2 d_undone_2 d_kept_2 m_undos_2 m_images_2 m_hasHouse_2 → Wk p l e room_1 s m #[Value.ref b] below meth c (lw_Z below #[Value.ref b] s) A g 7 n1 n2 (xw2 ++ (mw2 ++ [(cAJ g lo 1 fo)])) [(4, .int u4), (3, .ref lo), (2, .ref mo), (1, .ref h0), (0, .ref b)] 2062 []) : Wk p l e room_1 s m #[Value.ref b] below meth c (lw_Z below #[Value.ref b] s) A g 7 n1 n2 (xw ++ (mw ++ [(cAJ g lo 1 fo)])) [(4, .int u4), (3, .ref lo), (2, .ref mo), (1, .ref h0), (0, .ref b)] 932 [] := by
  have hiv : IV u4 0 3066 := ⟨hi.1, by omega⟩
  refine k_aload_n X dL_law_k40.1.1 3 rfl ?_
  refine lx_fits (st := []) () X hx dL_law_k40.1.2.1 mw966 (Nat.le_of_ble_eq_true rfl) (Nat.le_of_ble_eq_true rfl) (Nat.le_of_ble_eq_true rfl) (Nat.le_trans h1 (Nat.le_of_ble_eq_true rfl)) (Nat.le_trans h2 (Nat.le_of_ble_eq_true rfl)) (fun r_1 xw_2 hx_3 => ?_)
  refine k_pop X dL_law_k40.1.2.2 rfl ?_
  refine k_aload_n X dL_law_k40.2.1.1 2 rfl ?_
  refine lm_fits (st := []) () X hm dL_law_k40.2.1.2 mw975 (Nat.le_of_ble_eq_true rfl) (Nat.le_of_ble_eq_true rfl) (Nat.le_of_ble_eq_true rfl) (Nat.le_trans h1 (Nat.le_of_ble_eq_true rfl)) (Nat.le_trans h2 (Nat.le_of_ble_eq_true rfl)) (fun r_4 mw_5 hm_6 => ?_)
  refine k_pop X dL_law_k40.2.2.1 rfl ?_
  refine k_goto 2062 X dL_law_k40.2.2.2 (jp_e rfl) ?_
  exact kk _ _ _ _ _ _ _ _ _ _ _ _ _ _ _ _ _ _ _ _ _ _ _ _ _ _ _ _ _ _ _ _ _ _ _ _ _ _ _ _ hx_3 hm_6 hR

theorem dL_law_k41 : ((((dD cL_law 945 (.aload_n 1) 1 ∧ dD cL_law 946 (.aload_n 0) 1) ∧ (dD cL_law 947 (.iload 4) 2 ∧ dD cL_law 949 (.iconst 1) 1)) ∧ ((dD cL_law 950 .iadd 1 ∧ dD cL_law 951 .iaload 1) ∧ (dD cL_law 952 (.invokevirtual 106) 3 ∧ dD cL_law 955 .pop 1))) ∧ (((dD cL_law 956 (.aload_n 2) 1 ∧ dD cL_law 957 (.aload_n 0) 1) ∧ (dD cL_law 958 (.iload 4) 2 ∧ dD cL_law 960 (.iconst 1) 1)) ∧ ((dD cL_law 961 .iadd 1 ∧ dD cL_law 962 .iaload 1) ∧ (dD cL_law 963 (.invokevirtual 109) 3 ∧ dD cL_law 966 .pop 1)))) := dkA16 (by decide +kernel)
theorem dL_law_k42 : dD cL_law 967 (.goto 1095) 3 := dkA1 (by decide +kernel)
set_option maxHeartbeats 4000000 in
set_option maxRecDepth 100000 in
theorem law_c21 {p : Program} {l : Launch} {e : Env} {s : State} {m : MethodId} {below : List Frame} {meth : Method} {c : Code} {A : Nat → Prop} {g : Gx} {b L : Nat} {xs : Nat → Int32} {h0 mo lo n1 n2 : Nat} {fo : Nat → Int64} {u4 : Int32} {xtpd : Int32} {tpf : Nat → Int32} {yhnf : Nat → Int32} {yhtn : Int32} {yhtf : Nat → Int32} {yhjn : Int32} {yhjf : Nat → Int32} {yhmn : Int32} {yhmf : Nat → Int32} {yhbn : Int32} {yhbf : Nat → Int32} {yhsn : Int32} {yhsf : Nat → Int32} {yhcn : Int32} {yhcf : Nat → Int32} {zrn : Int32} {zmn : Int32} {zwn : Int32} {zpn : Int32} {zmd : Int32} {ztr : Int32} {zrf : Nat → Int32} {zmf : Nat → Int32} {zwf : Nat → Int32} {zpf : Nat → Int32} {kac : Int32} {knx : Int32} {kim : Int32} {cf : Nat → SC} {m_taped : Int32} {d_tape : Nat → Int32} {d_r : Nat → Int32} {d_st : Nat → Int32} {d_undone : Nat → Int32} {d_kept : Nat → Int32} {m_undos : Int32} {m_images : Int32} {m_hasHouse : Int32} {xw mw : va_W} (X : Cx p s m meth c #[Value.ref b] cL_law 7 RL A g) (hX : va_X b L xs s s.heap) (hbl : b < s.heap.size) (hbA : ¬ A b) (hi : 0 ≤ u4.toInt ∧ u4.toInt + 6 ≤ (L : Int)) (hL : L ≤ 3072) (h1 : n1 ≤ 601023) (h2 : n2 ≤ 7293028) (hlt : l.stackTraces = false) (hZ : kZ A s s.heap) (htsE : ∀ w ∈ wsE, w.before #[Value.ref b] s = true) (hx : XW g h0 xtpd tpf yhnf yhtn yhtf yhjn yhjf yhmn yhmf yhbn yhbf yhsn yhsf yhcn yhcf zrn zmn zwn zpn zmd ztr zrf zmf zwf zpf kac knx kim cf xw) (hm : MW g mo m_taped d_tape d_r d_st d_undone d_kept m_undos m_images m_hasHouse mw) (hR : LR xtpd tpf yhnf yhtn yhtf yhjn yhjf yhmn yhmf yhbn yhbf yhsn yhsf yhcn yhcf zrn zmn zwn zpn zmd ztr zrf zmf zwf zpf kac knx kim cf m_taped d_tape d_r d_st d_undone d_kept m_undos m_images m_hasHouse) (kk : ∀ (xtpd_2 : Int32) (tpf_2 : Nat → Int32) (yhnf_2 : Nat → Int32) (yhtn_2 : Int32) (yhtf_2 : Nat → Int32) (yhjn_2 : Int32) (yhjf_2 : Nat → Int32) (yhmn_2 : Int32) (yhmf_2 : Nat → Int32) (yhbn_2 : Int32) (yhbf_2 : Nat → Int32) (yhsn_2 : Int32) (yhsf_2 : Nat → Int32) (yhcn_2 : Int32) (yhcf_2 : Nat → Int32) (zrn_2 : Int32) (zmn_2 : Int32) (zwn_2 : Int32) (zpn_2 : Int32) (zmd_2 : Int32) (ztr_2 : Int32) (zrf_2 : Nat → Int32) (zmf_2 : Nat → Int32) (zwf_2 : Nat → Int32) (zpf_2 : Nat → Int32) (kac_2 : Int32) (knx_2 : Int32) (kim_2 : Int32) (cf_2 : Nat → SC) (m_taped_2 : Int32) (d_tape_2 : Nat → Int32) (d_r_2 : Nat → Int32) (d_st_2 : Nat → Int32) (d_undone_2 : Nat → Int32) (d_kept_2 : Nat → Int32) (m_undos_2 : Int32) (m_images_2 : Int32) (m_hasHouse_2 : Int32) (xw2 mw2 : va_W), XW g h0 xtpd_2 tpf_2 yhnf_2 yhtn_2 yhtf_2 yhjn_2 yhjf_2 yhmn_2 yhmf_2 yhbn_2 yhbf_2 yhsn_2 yhsf_2 yhcn_2 yhcf_2 zrn_2 zmn_2 zwn_2 zpn_2 zmd_2 ztr_2 zrf_2 zmf_2 zwf_2 zpf_2 kac_2 knx_2 kim_2 cf_2 xw2 → MW g mo m_taped_2 d_tape_2 d_r_2 d_st_2 d_undone_2 d_kept_2 m_undos_2 m_images_2 m_hasHouse_2 mw2 → LR xtpd_2 tpf_2 yhnf_2 yhtn_2 yhtf_2 yhjn_2 yhjf_2 yhmn_2 yhmf_2 yhbn_2 yhbf_2 yhsn_2 yhsf_2 yhcn_2 yhcf_2 zrn_2 zmn_2 zwn_2 zpn_2 zmd_2 ztr_2 zrf_2 zmf_2 zwf_2 zpf_2 kac_2 knx_2 kim_2 cf_2 m_taped_2 d_tape_2 d_r_2 d_st_2 d_undone_2 d_kept_2 m_undos_2 m_images_2 m_hasHouse_2 → Wk p l e room_1 s m #[Value.ref b] below meth c (lw_Z below #[Value.ref b] s) A g 7 n1 n2 (xw2 ++ (mw2 ++ [(cAJ g lo 1 fo)])) [(4, .int u4), (3, .ref lo), (2, .ref mo), (1, .ref h0), (0, .ref b)] 2062 []) : Wk p l e room_1 s m #[Value.ref b] below meth c (lw_Z below #[Value.ref b] s) A g 7 n1 n2 (xw ++ (mw ++ [(cAJ g lo 1 fo)])) [(4, .int u4), (3, .ref lo), (2, .ref mo), (1, .ref h0), (0, .ref b)] 945 [] := by
  have hiv : IV u4 0 3066 := ⟨hi.1, by omega⟩
  refine k_aload_n X dL_law_k41.1.1.1.1 3 rfl ?_
  refine k_aload_n X dL_law_k41.1.1.1.2 4 rfl ?_
  refine k_iload X dL_law_k41.1.1.2.1 0 rfl ?_
  refine k_iconst (v := 1) X dL_law_k41.1.1.2.2 ic_1 ?_
  refine k_iadd X dL_law_k41.1.2.1.1 ?_
  refine k_nm (fun z_1 ez_1 => ?_)
  have i_2 : z_1.toInt = u4.toInt + 1 := in_add ez_1 hiv iq_1_1_1 (zle_e rfl) (zle_e rfl)
  have iv_3 : IV z_1 1 3067 := by have := hiv; have := iq_1_1_1; rw [IV, i_2]; omega
  refine k_sld X hX hbl hbA dL_law_k41.1.2.1.2 (by rw [vp_in_iff]; have := iv_3; omega) ?_
  refine k_nm (fun a_4 ea_4 => ?_)
  refine lx_bestSlip (st := []) a_4 X hx dL_law_k41.1.2.2.1 mw979 (Nat.le_of_ble_eq_true rfl) (Nat.le_of_ble_eq_true rfl) (Nat.le_of_ble_eq_true rfl) (Nat.le_trans h1 (Nat.le_of_ble_eq_true rfl)) (Nat.le_trans h2 (Nat.le_of_ble_eq_true rfl)) (fun r_5 xw_6 hx_7 => ?_)
  refine k_pop X dL_law_k41.1.2.2.2 rfl ?_
  refine k_aload_n X dL_law_k41.2.1.1.1 2 rfl ?_
  refine k_aload_n X dL_law_k41.2.1.1.2 4 rfl ?_
  refine k_iload X dL_law_k41.2.1.2.1 0 rfl ?_
  refine k_iconst (v := 1) X dL_law_k41.2.1.2.2 ic_1 ?_
  refine k_iadd X dL_law_k41.2.2.1.1 ?_
  refine k_to z_1 ez_1.symm ?_
  refine k_sld X hX hbl hbA dL_law_k41.2.2.1.2 (by rw [vp_in_iff]; have := iv_3; omega) ?_
  refine k_to a_4 ea_4.symm ?_
  refine lm_bestSlip (st := []) a_4 X hm dL_law_k41.2.2.2.1 mw993 (Nat.le_of_ble_eq_true rfl) (Nat.le_of_ble_eq_true rfl) (Nat.le_of_ble_eq_true rfl) (Nat.le_trans h1 (Nat.le_of_ble_eq_true rfl)) (Nat.le_trans h2 (Nat.le_of_ble_eq_true rfl)) (fun r_8 mw_9 hm_10 => ?_)
  refine k_pop X dL_law_k41.2.2.2.2 rfl ?_
  refine k_goto 2062 X dL_law_k42 (jp_e rfl) ?_
  exact kk _ _ _ _ _ _ _ _ _ _ _ _ _ _ _ _ _ _ _ _ _ _ _ _ _ _ _ _ _ _ _ _ _ _ _ _ _ _ _ _ hx_7 hm_10 hR

theorem dL_law_k43 : ((((dD cL_law 970 (.aload_n 1) 1 ∧ dD cL_law 971 (.aload_n 0) 1) ∧ (dD cL_law 972 (.iload 4) 2 ∧ dD cL_law 974 (.iconst 1) 1)) ∧ ((dD cL_law 975 .iadd 1 ∧ dD cL_law 976 .iaload 1) ∧ (dD cL_law 977 (.invokevirtual 110) 3 ∧ dD cL_law 980 .pop 1))) ∧ (((dD cL_law 981 (.aload_n 2) 1 ∧ dD cL_law 982 (.aload_n 0) 1) ∧ (dD cL_law 983 (.iload 4) 2 ∧ dD cL_law 985 (.iconst 1) 1)) ∧ ((dD cL_law 986 .iadd 1 ∧ dD cL_law 987 .iaload 1) ∧ (dD cL_law 988 (.invokevirtual 113) 3 ∧ dD cL_law 991 .pop 1)))) := dkA16 (by decide +kernel)
theorem dL_law_k44 : dD cL_law 992 (.goto 1070) 3 := dkA1 (by decide +kernel)
set_option maxHeartbeats 4000000 in
set_option maxRecDepth 100000 in
theorem law_c22 {p : Program} {l : Launch} {e : Env} {s : State} {m : MethodId} {below : List Frame} {meth : Method} {c : Code} {A : Nat → Prop} {g : Gx} {b L : Nat} {xs : Nat → Int32} {h0 mo lo n1 n2 : Nat} {fo : Nat → Int64} {u4 : Int32} {xtpd : Int32} {tpf : Nat → Int32} {yhnf : Nat → Int32} {yhtn : Int32} {yhtf : Nat → Int32} {yhjn : Int32} {yhjf : Nat → Int32} {yhmn : Int32} {yhmf : Nat → Int32} {yhbn : Int32} {yhbf : Nat → Int32} {yhsn : Int32} {yhsf : Nat → Int32} {yhcn : Int32} {yhcf : Nat → Int32} {zrn : Int32} {zmn : Int32} {zwn : Int32} {zpn : Int32} {zmd : Int32} {ztr : Int32} {zrf : Nat → Int32} {zmf : Nat → Int32} {zwf : Nat → Int32} {zpf : Nat → Int32} {kac : Int32} {knx : Int32} {kim : Int32} {cf : Nat → SC} {m_taped : Int32} {d_tape : Nat → Int32} {d_r : Nat → Int32} {d_st : Nat → Int32} {d_undone : Nat → Int32} {d_kept : Nat → Int32} {m_undos : Int32} {m_images : Int32} {m_hasHouse : Int32} {xw mw : va_W} (X : Cx p s m meth c #[Value.ref b] cL_law 7 RL A g) (hX : va_X b L xs s s.heap) (hbl : b < s.heap.size) (hbA : ¬ A b) (hi : 0 ≤ u4.toInt ∧ u4.toInt + 6 ≤ (L : Int)) (hL : L ≤ 3072) (h1 : n1 ≤ 601023) (h2 : n2 ≤ 7293028) (hlt : l.stackTraces = false) (hZ : kZ A s s.heap) (htsE : ∀ w ∈ wsE, w.before #[Value.ref b] s = true) (hx : XW g h0 xtpd tpf yhnf yhtn yhtf yhjn yhjf yhmn yhmf yhbn yhbf yhsn yhsf yhcn yhcf zrn zmn zwn zpn zmd ztr zrf zmf zwf zpf kac knx kim cf xw) (hm : MW g mo m_taped d_tape d_r d_st d_undone d_kept m_undos m_images m_hasHouse mw) (hR : LR xtpd tpf yhnf yhtn yhtf yhjn yhjf yhmn yhmf yhbn yhbf yhsn yhsf yhcn yhcf zrn zmn zwn zpn zmd ztr zrf zmf zwf zpf kac knx kim cf m_taped d_tape d_r d_st d_undone d_kept m_undos m_images m_hasHouse) (kk : ∀ (xtpd_2 : Int32) (tpf_2 : Nat → Int32) (yhnf_2 : Nat → Int32) (yhtn_2 : Int32) (yhtf_2 : Nat → Int32) (yhjn_2 : Int32) (yhjf_2 : Nat → Int32) (yhmn_2 : Int32) (yhmf_2 : Nat → Int32) (yhbn_2 : Int32) (yhbf_2 : Nat → Int32) (yhsn_2 : Int32) (yhsf_2 : Nat → Int32) (yhcn_2 : Int32) (yhcf_2 : Nat → Int32) (zrn_2 : Int32) (zmn_2 : Int32) (zwn_2 : Int32) (zpn_2 : Int32) (zmd_2 : Int32) (ztr_2 : Int32) (zrf_2 : Nat → Int32) (zmf_2 : Nat → Int32) (zwf_2 : Nat → Int32) (zpf_2 : Nat → Int32) (kac_2 : Int32) (knx_2 : Int32) (kim_2 : Int32) (cf_2 : Nat → SC) (m_taped_2 : Int32) (d_tape_2 : Nat → Int32) (d_r_2 : Nat → Int32) (d_st_2 : Nat → Int32) (d_undone_2 : Nat → Int32) (d_kept_2 : Nat → Int32) (m_undos_2 : Int32) (m_images_2 : Int32) (m_hasHouse_2 : Int32) (xw2 mw2 : va_W), XW g h0 xtpd_2 tpf_2 yhnf_2 yhtn_2 yhtf_2 yhjn_2 yhjf_2 yhmn_2 yhmf_2 yhbn_2 yhbf_2 yhsn_2 yhsf_2 yhcn_2 yhcf_2 zrn_2 zmn_2 zwn_2 zpn_2 zmd_2 ztr_2 zrf_2 zmf_2 zwf_2 zpf_2 kac_2 knx_2 kim_2 cf_2 xw2 → MW g mo m_taped_2 d_tape_2 d_r_2 d_st_2 d_undone_2 d_kept_2 m_undos_2 m_images_2 m_hasHouse_2 mw2 → LR xtpd_2 tpf_2 yhnf_2 yhtn_2 yhtf_2 yhjn_2 yhjf_2 yhmn_2 yhmf_2 yhbn_2 yhbf_2 yhsn_2 yhsf_2 yhcn_2 yhcf_2 zrn_2 zmn_2 zwn_2 zpn_2 zmd_2 ztr_2 zrf_2 zmf_2 zwf_2 zpf_2 kac_2 knx_2 kim_2 cf_2 m_taped_2 d_tape_2 d_r_2 d_st_2 d_undone_2 d_kept_2 m_undos_2 m_images_2 m_hasHouse_2 → Wk p l e room_1 s m #[Value.ref b] below meth c (lw_Z below #[Value.ref b] s) A g 7 n1 n2 (xw2 ++ (mw2 ++ [(cAJ g lo 1 fo)])) [(4, .int u4), (3, .ref lo), (2, .ref mo), (1, .ref h0), (0, .ref b)] 2062 []) : Wk p l e room_1 s m #[Value.ref b] below meth c (lw_Z below #[Value.ref b] s) A g 7 n1 n2 (xw ++ (mw ++ [(cAJ g lo 1 fo)])) [(4, .int u4), (3, .ref lo), (2, .ref mo), (1, .ref h0), (0, .ref b)] 970 [] := by
  have hiv : IV u4 0 3066 := ⟨hi.1, by omega⟩
  refine k_aload_n X dL_law_k43.1.1.1.1 3 rfl ?_
  refine k_aload_n X dL_law_k43.1.1.1.2 4 rfl ?_
  refine k_iload X dL_law_k43.1.1.2.1 0 rfl ?_
  refine k_iconst (v := 1) X dL_law_k43.1.1.2.2 ic_1 ?_
  refine k_iadd X dL_law_k43.1.2.1.1 ?_
  refine k_nm (fun z_1 ez_1 => ?_)
  have i_2 : z_1.toInt = u4.toInt + 1 := in_add ez_1 hiv iq_1_1_1 (zle_e rfl) (zle_e rfl)
  have iv_3 : IV z_1 1 3067 := by have := hiv; have := iq_1_1_1; rw [IV, i_2]; omega
  refine k_sld X hX hbl hbA dL_law_k43.1.2.1.2 (by rw [vp_in_iff]; have := iv_3; omega) ?_
  refine k_nm (fun a_4 ea_4 => ?_)
  refine lx_bySlip (st := []) a_4 X hx dL_law_k43.1.2.2.1 mw1002 (Nat.le_of_ble_eq_true rfl) (Nat.le_of_ble_eq_true rfl) (Nat.le_of_ble_eq_true rfl) (Nat.le_trans h1 (Nat.le_of_ble_eq_true rfl)) (Nat.le_trans h2 (Nat.le_of_ble_eq_true rfl)) (fun r_5 xw_6 hx_7 => ?_)
  refine k_pop X dL_law_k43.1.2.2.2 rfl ?_
  refine k_aload_n X dL_law_k43.2.1.1.1 2 rfl ?_
  refine k_aload_n X dL_law_k43.2.1.1.2 4 rfl ?_
  refine k_iload X dL_law_k43.2.1.2.1 0 rfl ?_
  refine k_iconst (v := 1) X dL_law_k43.2.1.2.2 ic_1 ?_
  refine k_iadd X dL_law_k43.2.2.1.1 ?_
  refine k_to z_1 ez_1.symm ?_
  refine k_sld X hX hbl hbA dL_law_k43.2.2.1.2 (by rw [vp_in_iff]; have := iv_3; omega) ?_
  refine k_to a_4 ea_4.symm ?_
  refine lm_bySlip (st := []) a_4 X hm dL_law_k43.2.2.2.1 mw1006 (Nat.le_of_ble_eq_true rfl) (Nat.le_of_ble_eq_true rfl) (Nat.le_of_ble_eq_true rfl) (Nat.le_trans h1 (Nat.le_of_ble_eq_true rfl)) (Nat.le_trans h2 (Nat.le_of_ble_eq_true rfl)) (fun r_8 mw_9 hm_10 => ?_)
  refine k_pop X dL_law_k43.2.2.2.2 rfl ?_
  refine k_goto 2062 X dL_law_k44 (jp_e rfl) ?_
  exact kk _ _ _ _ _ _ _ _ _ _ _ _ _ _ _ _ _ _ _ _ _ _ _ _ _ _ _ _ _ _ _ _ _ _ _ _ _ _ _ _ hx_7 hm_10 hR

theorem dL_law_k45 : ((((dD cL_law 995 (.aload_n 1) 1 ∧ dD cL_law 996 (.aload_n 0) 1) ∧ (dD cL_law 997 (.iload 4) 2 ∧ dD cL_law 999 (.iconst 1) 1)) ∧ ((dD cL_law 1000 .iadd 1 ∧ dD cL_law 1001 .iaload 1) ∧ (dD cL_law 1002 (.aload_n 0) 1 ∧ dD cL_law 1003 (.iload 4) 2))) ∧ (((dD cL_law 1005 (.iconst 2) 1 ∧ dD cL_law 1006 .iadd 1) ∧ (dD cL_law 1007 .iaload 1 ∧ dD cL_law 1008 (.invokevirtual 114) 3)) ∧ ((dD cL_law 1011 .pop 1 ∧ dD cL_law 1012 (.aload_n 2) 1) ∧ (dD cL_law 1013 (.aload_n 0) 1 ∧ dD cL_law 1014 (.iload 4) 2)))) := dkA16 (by decide +kernel)
theorem dL_law_k46 : (((dD cL_law 1016 (.iconst 1) 1 ∧ dD cL_law 1017 .iadd 1) ∧ (dD cL_law 1018 .iaload 1 ∧ (dD cL_law 1019 (.aload_n 0) 1 ∧ dD cL_law 1020 (.iload 4) 2))) ∧ ((dD cL_law 1022 (.iconst 2) 1 ∧ (dD cL_law 1023 .iadd 1 ∧ dD cL_law 1024 .iaload 1)) ∧ (dD cL_law 1025 (.invokevirtual 117) 3 ∧ (dD cL_law 1028 .pop 1 ∧ dD cL_law 1029 (.goto 1033) 3)))) := dkA11 (by decide +kernel)
set_option maxHeartbeats 4000000 in
set_option maxRecDepth 100000 in
theorem law_c23 {p : Program} {l : Launch} {e : Env} {s : State} {m : MethodId} {below : List Frame} {meth : Method} {c : Code} {A : Nat → Prop} {g : Gx} {b L : Nat} {xs : Nat → Int32} {h0 mo lo n1 n2 : Nat} {fo : Nat → Int64} {u4 : Int32} {xtpd : Int32} {tpf : Nat → Int32} {yhnf : Nat → Int32} {yhtn : Int32} {yhtf : Nat → Int32} {yhjn : Int32} {yhjf : Nat → Int32} {yhmn : Int32} {yhmf : Nat → Int32} {yhbn : Int32} {yhbf : Nat → Int32} {yhsn : Int32} {yhsf : Nat → Int32} {yhcn : Int32} {yhcf : Nat → Int32} {zrn : Int32} {zmn : Int32} {zwn : Int32} {zpn : Int32} {zmd : Int32} {ztr : Int32} {zrf : Nat → Int32} {zmf : Nat → Int32} {zwf : Nat → Int32} {zpf : Nat → Int32} {kac : Int32} {knx : Int32} {kim : Int32} {cf : Nat → SC} {m_taped : Int32} {d_tape : Nat → Int32} {d_r : Nat → Int32} {d_st : Nat → Int32} {d_undone : Nat → Int32} {d_kept : Nat → Int32} {m_undos : Int32} {m_images : Int32} {m_hasHouse : Int32} {xw mw : va_W} (X : Cx p s m meth c #[Value.ref b] cL_law 7 RL A g) (hX : va_X b L xs s s.heap) (hbl : b < s.heap.size) (hbA : ¬ A b) (hi : 0 ≤ u4.toInt ∧ u4.toInt + 6 ≤ (L : Int)) (hL : L ≤ 3072) (h1 : n1 ≤ 601023) (h2 : n2 ≤ 7293028) (hlt : l.stackTraces = false) (hZ : kZ A s s.heap) (htsE : ∀ w ∈ wsE, w.before #[Value.ref b] s = true) (hx : XW g h0 xtpd tpf yhnf yhtn yhtf yhjn yhjf yhmn yhmf yhbn yhbf yhsn yhsf yhcn yhcf zrn zmn zwn zpn zmd ztr zrf zmf zwf zpf kac knx kim cf xw) (hm : MW g mo m_taped d_tape d_r d_st d_undone d_kept m_undos m_images m_hasHouse mw) (hR : LR xtpd tpf yhnf yhtn yhtf yhjn yhjf yhmn yhmf yhbn yhbf yhsn yhsf yhcn yhcf zrn zmn zwn zpn zmd ztr zrf zmf zwf zpf kac knx kim cf m_taped d_tape d_r d_st d_undone d_kept m_undos m_images m_hasHouse) (kk : ∀ (xtpd_2 : Int32) (tpf_2 : Nat → Int32) (yhnf_2 : Nat → Int32) (yhtn_2 : Int32) (yhtf_2 : Nat → Int32) (yhjn_2 : Int32) (yhjf_2 : Nat → Int32) (yhmn_2 : Int32) (yhmf_2 : Nat → Int32) (yhbn_2 : Int32) (yhbf_2 : Nat → Int32) (yhsn_2 : Int32) (yhsf_2 : Nat → Int32) (yhcn_2 : Int32) (yhcf_2 : Nat → Int32) (zrn_2 : Int32) (zmn_2 : Int32) (zwn_2 : Int32) (zpn_2 : Int32) (zmd_2 : Int32) (ztr_2 : Int32) (zrf_2 : Nat → Int32) (zmf_2 : Nat → Int32) (zwf_2 : Nat → Int32) (zpf_2 : Nat → Int32) (kac_2 : Int32) (knx_2 : Int32) (kim_2 : Int32) (cf_2 : Nat → SC) (m_taped_2 : Int32) (d_tape_2 : Nat → Int32) (d_r_2 : Nat → Int32) (d_st_2 : Nat → Int32) (d_undone_2 : Nat → Int32) (d_kept_2 : Nat → Int32) (m_undos_2 : Int32) (m_images_2 : Int32) (m_hasHouse_2 : Int32) (xw2 mw2 : va_W), XW g h0 xtpd_2 tpf_2 yhnf_2 yhtn_2 yhtf_2 yhjn_2 yhjf_2 yhmn_2 yhmf_2 yhbn_2 yhbf_2 yhsn_2 yhsf_2 yhcn_2 yhcf_2 zrn_2 zmn_2 zwn_2 zpn_2 zmd_2 ztr_2 zrf_2 zmf_2 zwf_2 zpf_2 kac_2 knx_2 kim_2 cf_2 xw2 → MW g mo m_taped_2 d_tape_2 d_r_2 d_st_2 d_undone_2 d_kept_2 m_undos_2 m_images_2 m_hasHouse_2 mw2 → LR xtpd_2 tpf_2 yhnf_2 yhtn_2 yhtf_2 yhjn_2 yhjf_2 yhmn_2 yhmf_2 yhbn_2 yhbf_2 yhsn_2 yhsf_2 yhcn_2 yhcf_2 zrn_2 zmn_2 zwn_2 zpn_2 zmd_2 ztr_2 zrf_2 zmf_2 zwf_2 zpf_2 kac_2 knx_2 kim_2 cf_2 m_taped_2 d_tape_2 d_r_2 d_st_2 d_undone_2 d_kept_2 m_undos_2 m_images_2 m_hasHouse_2 → Wk p l e room_1 s m #[Value.ref b] below meth c (lw_Z below #[Value.ref b] s) A g 7 n1 n2 (xw2 ++ (mw2 ++ [(cAJ g lo 1 fo)])) [(4, .int u4), (3, .ref lo), (2, .ref mo), (1, .ref h0), (0, .ref b)] 2062 []) : Wk p l e room_1 s m #[Value.ref b] below meth c (lw_Z below #[Value.ref b] s) A g 7 n1 n2 (xw ++ (mw ++ [(cAJ g lo 1 fo)])) [(4, .int u4), (3, .ref lo), (2, .ref mo), (1, .ref h0), (0, .ref b)] 995 [] := by
  have hiv : IV u4 0 3066 := ⟨hi.1, by omega⟩
  refine k_aload_n X dL_law_k45.1.1.1.1 3 rfl ?_
  refine k_aload_n X dL_law_k45.1.1.1.2 4 rfl ?_
  refine k_iload X dL_law_k45.1.1.2.1 0 rfl ?_
  refine k_iconst (v := 1) X dL_law_k45.1.1.2.2 ic_1 ?_
  refine k_iadd X dL_law_k45.1.2.1.1 ?_
  refine k_nm (fun z_1 ez_1 => ?_)
  have i_2 : z_1.toInt = u4.toInt + 1 := in_add ez_1 hiv iq_1_1_1 (zle_e rfl) (zle_e rfl)
  have iv_3 : IV z_1 1 3067 := by have := hiv; have := iq_1_1_1; rw [IV, i_2]; omega
  refine k_sld X hX hbl hbA dL_law_k45.1.2.1.2 (by rw [vp_in_iff]; have := iv_3; omega) ?_
  refine k_nm (fun a_4 ea_4 => ?_)
  refine k_aload_n X dL_law_k45.1.2.2.1 4 rfl ?_
  refine k_iload X dL_law_k45.1.2.2.2 0 rfl ?_
  refine k_iconst (v := 2) X dL_law_k45.2.1.1.1 ic_2 ?_
  refine k_iadd X dL_law_k45.2.1.1.2 ?_
  refine k_nm (fun z_5 ez_5 => ?_)
  have i_6 : z_5.toInt = u4.toInt + 2 := in_add ez_5 hiv iq_2_2_2 (zle_e rfl) (zle_e rfl)
  have iv_7 : IV z_5 2 3068 := by have := hiv; have := iq_2_2_2; rw [IV, i_6]; omega
  refine k_sld X hX hbl hbA dL_law_k45.2.1.2.1 (by rw [vp_in_iff]; have := iv_7; omega) ?_
  refine k_nm (fun a_8 ea_8 => ?_)
  refine lx_needs (st := []) a_4 a_8 X hx dL_law_k45.2.1.2.2 mw1010 (Nat.le_of_ble_eq_true rfl) (Nat.le_of_ble_eq_true rfl) (Nat.le_of_ble_eq_true rfl) (Nat.le_trans h1 (Nat.le_of_ble_eq_true rfl)) (Nat.le_trans h2 (Nat.le_of_ble_eq_true rfl)) (fun r_9 xw_10 hx_11 => ?_)
  refine k_pop X dL_law_k45.2.2.1.1 rfl ?_
  refine k_aload_n X dL_law_k45.2.2.1.2 2 rfl ?_
  refine k_aload_n X dL_law_k45.2.2.2.1 4 rfl ?_
  refine k_iload X dL_law_k45.2.2.2.2 0 rfl ?_
  refine k_iconst (v := 1) X dL_law_k46.1.1.1 ic_1 ?_
  refine k_iadd X dL_law_k46.1.1.2 ?_
  refine k_to z_1 ez_1.symm ?_
  refine k_sld X hX hbl hbA dL_law_k46.1.2.1 (by rw [vp_in_iff]; have := iv_3; omega) ?_
  refine k_to a_4 ea_4.symm ?_
  refine k_aload_n X dL_law_k46.1.2.2.1 4 rfl ?_
  refine k_iload X dL_law_k46.1.2.2.2 0 rfl ?_
  refine k_iconst (v := 2) X dL_law_k46.2.1.1 ic_2 ?_
  refine k_iadd X dL_law_k46.2.1.2.1 ?_
  refine k_to z_5 ez_5.symm ?_
  refine k_sld X hX hbl hbA dL_law_k46.2.1.2.2 (by rw [vp_in_iff]; have := iv_7; omega) ?_
  refine k_to a_8 ea_8.symm ?_
  refine lm_needs (st := []) a_4 a_8 X hm dL_law_k46.2.2.1 mw1018 (Nat.le_of_ble_eq_true rfl) (Nat.le_of_ble_eq_true rfl) (Nat.le_of_ble_eq_true rfl) (Nat.le_trans h1 (Nat.le_of_ble_eq_true rfl)) (Nat.le_trans h2 (Nat.le_of_ble_eq_true rfl)) (fun r_12 mw_13 hm_14 => ?_)
  refine k_pop X dL_law_k46.2.2.2.1 rfl ?_
  refine k_goto 2062 X dL_law_k46.2.2.2.2 (jp_e rfl) ?_
  exact kk _ _ _ _ _ _ _ _ _ _ _ _ _ _ _ _ _ _ _ _ _ _ _ _ _ _ _ _ _ _ _ _ _ _ _ _ _ _ _ _ hx_11 hm_14 hR

theorem dL_law_k47 : ((((dD cL_law 1032 (.aload_n 1) 1 ∧ dD cL_law 1033 (.aload_n 0) 1) ∧ (dD cL_law 1034 (.iload 4) 2 ∧ dD cL_law 1036 (.iconst 1) 1)) ∧ ((dD cL_law 1037 .iadd 1 ∧ dD cL_law 1038 .iaload 1) ∧ (dD cL_law 1039 (.aload_n 0) 1 ∧ dD cL_law 1040 (.iload 4) 2))) ∧ (((dD cL_law 1042 (.iconst 2) 1 ∧ dD cL_law 1043 .iadd 1) ∧ (dD cL_law 1044 .iaload 1 ∧ dD cL_law 1045 (.invokevirtual 118) 3)) ∧ ((dD cL_law 1048 .pop 1 ∧ dD cL_law 1049 (.aload_n 2) 1) ∧ (dD cL_law 1050 (.aload_n 0) 1 ∧ dD cL_law 1051 (.iload 4) 2)))) := dkA16 (by decide +kernel)
theorem dL_law_k48 : (((dD cL_law 1053 (.iconst 1) 1 ∧ dD cL_law 1054 .iadd 1) ∧ (dD cL_law 1055 .iaload 1 ∧ (dD cL_law 1056 (.aload_n 0) 1 ∧ dD cL_law 1057 (.iload 4) 2))) ∧ ((dD cL_law 1059 (.iconst 2) 1 ∧ (dD cL_law 1060 .iadd 1 ∧ dD cL_law 1061 .iaload 1)) ∧ (dD cL_law 1062 (.invokevirtual 121) 3 ∧ (dD cL_law 1065 .pop 1 ∧ dD cL_law 1066 (.goto 996) 3)))) := dkA11 (by decide +kernel)
set_option maxHeartbeats 4000000 in
set_option maxRecDepth 100000 in
theorem law_c24 {p : Program} {l : Launch} {e : Env} {s : State} {m : MethodId} {below : List Frame} {meth : Method} {c : Code} {A : Nat → Prop} {g : Gx} {b L : Nat} {xs : Nat → Int32} {h0 mo lo n1 n2 : Nat} {fo : Nat → Int64} {u4 : Int32} {xtpd : Int32} {tpf : Nat → Int32} {yhnf : Nat → Int32} {yhtn : Int32} {yhtf : Nat → Int32} {yhjn : Int32} {yhjf : Nat → Int32} {yhmn : Int32} {yhmf : Nat → Int32} {yhbn : Int32} {yhbf : Nat → Int32} {yhsn : Int32} {yhsf : Nat → Int32} {yhcn : Int32} {yhcf : Nat → Int32} {zrn : Int32} {zmn : Int32} {zwn : Int32} {zpn : Int32} {zmd : Int32} {ztr : Int32} {zrf : Nat → Int32} {zmf : Nat → Int32} {zwf : Nat → Int32} {zpf : Nat → Int32} {kac : Int32} {knx : Int32} {kim : Int32} {cf : Nat → SC} {m_taped : Int32} {d_tape : Nat → Int32} {d_r : Nat → Int32} {d_st : Nat → Int32} {d_undone : Nat → Int32} {d_kept : Nat → Int32} {m_undos : Int32} {m_images : Int32} {m_hasHouse : Int32} {xw mw : va_W} (X : Cx p s m meth c #[Value.ref b] cL_law 7 RL A g) (hX : va_X b L xs s s.heap) (hbl : b < s.heap.size) (hbA : ¬ A b) (hi : 0 ≤ u4.toInt ∧ u4.toInt + 6 ≤ (L : Int)) (hL : L ≤ 3072) (h1 : n1 ≤ 601023) (h2 : n2 ≤ 7293028) (hlt : l.stackTraces = false) (hZ : kZ A s s.heap) (htsE : ∀ w ∈ wsE, w.before #[Value.ref b] s = true) (hx : XW g h0 xtpd tpf yhnf yhtn yhtf yhjn yhjf yhmn yhmf yhbn yhbf yhsn yhsf yhcn yhcf zrn zmn zwn zpn zmd ztr zrf zmf zwf zpf kac knx kim cf xw) (hm : MW g mo m_taped d_tape d_r d_st d_undone d_kept m_undos m_images m_hasHouse mw) (hR : LR xtpd tpf yhnf yhtn yhtf yhjn yhjf yhmn yhmf yhbn yhbf yhsn yhsf yhcn yhcf zrn zmn zwn zpn zmd ztr zrf zmf zwf zpf kac knx kim cf m_taped d_tape d_r d_st d_undone d_kept m_undos m_images m_hasHouse) (kk : ∀ (xtpd_2 : Int32) (tpf_2 : Nat → Int32) (yhnf_2 : Nat → Int32) (yhtn_2 : Int32) (yhtf_2 : Nat → Int32) (yhjn_2 : Int32) (yhjf_2 : Nat → Int32) (yhmn_2 : Int32) (yhmf_2 : Nat → Int32) (yhbn_2 : Int32) (yhbf_2 : Nat → Int32) (yhsn_2 : Int32) (yhsf_2 : Nat → Int32) (yhcn_2 : Int32) (yhcf_2 : Nat → Int32) (zrn_2 : Int32) (zmn_2 : Int32) (zwn_2 : Int32) (zpn_2 : Int32) (zmd_2 : Int32) (ztr_2 : Int32) (zrf_2 : Nat → Int32) (zmf_2 : Nat → Int32) (zwf_2 : Nat → Int32) (zpf_2 : Nat → Int32) (kac_2 : Int32) (knx_2 : Int32) (kim_2 : Int32) (cf_2 : Nat → SC) (m_taped_2 : Int32) (d_tape_2 : Nat → Int32) (d_r_2 : Nat → Int32) (d_st_2 : Nat → Int32) (d_undone_2 : Nat → Int32) (d_kept_2 : Nat → Int32) (m_undos_2 : Int32) (m_images_2 : Int32) (m_hasHouse_2 : Int32) (xw2 mw2 : va_W), XW g h0 xtpd_2 tpf_2 yhnf_2 yhtn_2 yhtf_2 yhjn_2 yhjf_2 yhmn_2 yhmf_2 yhbn_2 yhbf_2 yhsn_2 yhsf_2 yhcn_2 yhcf_2 zrn_2 zmn_2 zwn_2 zpn_2 zmd_2 ztr_2 zrf_2 zmf_2 zwf_2 zpf_2 kac_2 knx_2 kim_2 cf_2 xw2 → MW g mo m_taped_2 d_tape_2 d_r_2 d_st_2 d_undone_2 d_kept_2 m_undos_2 m_images_2 m_hasHouse_2 mw2 → LR xtpd_2 tpf_2 yhnf_2 yhtn_2 yhtf_2 yhjn_2 yhjf_2 yhmn_2 yhmf_2 yhbn_2 yhbf_2 yhsn_2 yhsf_2 yhcn_2 yhcf_2 zrn_2 zmn_2 zwn_2 zpn_2 zmd_2 ztr_2 zrf_2 zmf_2 zwf_2 zpf_2 kac_2 knx_2 kim_2 cf_2 m_taped_2 d_tape_2 d_r_2 d_st_2 d_undone_2 d_kept_2 m_undos_2 m_images_2 m_hasHouse_2 → Wk p l e room_1 s m #[Value.ref b] below meth c (lw_Z below #[Value.ref b] s) A g 7 n1 n2 (xw2 ++ (mw2 ++ [(cAJ g lo 1 fo)])) [(4, .int u4), (3, .ref lo), (2, .ref mo), (1, .ref h0), (0, .ref b)] 2062 []) : Wk p l e room_1 s m #[Value.ref b] below meth c (lw_Z below #[Value.ref b] s) A g 7 n1 n2 (xw ++ (mw ++ [(cAJ g lo 1 fo)])) [(4, .int u4), (3, .ref lo), (2, .ref mo), (1, .ref h0), (0, .ref b)] 1032 [] := by
  have hiv : IV u4 0 3066 := ⟨hi.1, by omega⟩
  refine k_aload_n X dL_law_k47.1.1.1.1 3 rfl ?_
  refine k_aload_n X dL_law_k47.1.1.1.2 4 rfl ?_
  refine k_iload X dL_law_k47.1.1.2.1 0 rfl ?_
  refine k_iconst (v := 1) X dL_law_k47.1.1.2.2 ic_1 ?_
  refine k_iadd X dL_law_k47.1.2.1.1 ?_
  refine k_nm (fun z_1 ez_1 => ?_)
  have i_2 : z_1.toInt = u4.toInt + 1 := in_add ez_1 hiv iq_1_1_1 (zle_e rfl) (zle_e rfl)
  have iv_3 : IV z_1 1 3067 := by have := hiv; have := iq_1_1_1; rw [IV, i_2]; omega
  refine k_sld X hX hbl hbA dL_law_k47.1.2.1.2 (by rw [vp_in_iff]; have := iv_3; omega) ?_
  refine k_nm (fun a_4 ea_4 => ?_)
  refine k_aload_n X dL_law_k47.1.2.2.1 4 rfl ?_
  refine k_iload X dL_law_k47.1.2.2.2 0 rfl ?_
  refine k_iconst (v := 2) X dL_law_k47.2.1.1.1 ic_2 ?_
  refine k_iadd X dL_law_k47.2.1.1.2 ?_
  refine k_nm (fun z_5 ez_5 => ?_)
  have i_6 : z_5.toInt = u4.toInt + 2 := in_add ez_5 hiv iq_2_2_2 (zle_e rfl) (zle_e rfl)
  have iv_7 : IV z_5 2 3068 := by have := hiv; have := iq_2_2_2; rw [IV, i_6]; omega
  refine k_sld X hX hbl hbA dL_law_k47.2.1.2.1 (by rw [vp_in_iff]; have := iv_7; omega) ?_
  refine k_nm (fun a_8 ea_8 => ?_)
  refine lx_dies (st := []) a_4 a_8 X hx dL_law_k47.2.1.2.2 mw1026 (Nat.le_of_ble_eq_true rfl) (Nat.le_of_ble_eq_true rfl) (Nat.le_of_ble_eq_true rfl) (Nat.le_trans h1 (Nat.le_of_ble_eq_true rfl)) (Nat.le_trans h2 (Nat.le_of_ble_eq_true rfl)) (fun r_9 xw_10 hx_11 => ?_)
  refine k_pop X dL_law_k47.2.2.1.1 rfl ?_
  refine k_aload_n X dL_law_k47.2.2.1.2 2 rfl ?_
  refine k_aload_n X dL_law_k47.2.2.2.1 4 rfl ?_
  refine k_iload X dL_law_k47.2.2.2.2 0 rfl ?_
  refine k_iconst (v := 1) X dL_law_k48.1.1.1 ic_1 ?_
  refine k_iadd X dL_law_k48.1.1.2 ?_
  refine k_to z_1 ez_1.symm ?_
  refine k_sld X hX hbl hbA dL_law_k48.1.2.1 (by rw [vp_in_iff]; have := iv_3; omega) ?_
  refine k_to a_4 ea_4.symm ?_
  refine k_aload_n X dL_law_k48.1.2.2.1 4 rfl ?_
  refine k_iload X dL_law_k48.1.2.2.2 0 rfl ?_
  refine k_iconst (v := 2) X dL_law_k48.2.1.1 ic_2 ?_
  refine k_iadd X dL_law_k48.2.1.2.1 ?_
  refine k_to z_5 ez_5.symm ?_
  refine k_sld X hX hbl hbA dL_law_k48.2.1.2.2 (by rw [vp_in_iff]; have := iv_7; omega) ?_
  refine k_to a_8 ea_8.symm ?_
  refine lm_dies (st := []) a_4 a_8 X hm dL_law_k48.2.2.1 mw1046 (Nat.le_of_ble_eq_true rfl) (Nat.le_of_ble_eq_true rfl) (Nat.le_of_ble_eq_true rfl) (Nat.le_trans h1 (Nat.le_of_ble_eq_true rfl)) (Nat.le_trans h2 (Nat.le_of_ble_eq_true rfl)) (fun r_12 mw_13 hm_14 => ?_)
  refine k_pop X dL_law_k48.2.2.2.1 rfl ?_
  refine k_goto 2062 X dL_law_k48.2.2.2.2 (jp_e rfl) ?_
  exact kk _ _ _ _ _ _ _ _ _ _ _ _ _ _ _ _ _ _ _ _ _ _ _ _ _ _ _ _ _ _ _ _ _ _ _ _ _ _ _ _ hx_11 hm_14 hR

theorem dL_law_k49 : ((((dD cL_law 1069 (.aload_n 1) 1 ∧ dD cL_law 1070 (.aload_n 0) 1) ∧ (dD cL_law 1071 (.iload 4) 2 ∧ dD cL_law 1073 (.iconst 1) 1)) ∧ ((dD cL_law 1074 .iadd 1 ∧ dD cL_law 1075 .iaload 1) ∧ (dD cL_law 1076 (.invokevirtual 122) 3 ∧ dD cL_law 1079 .pop 1))) ∧ (((dD cL_law 1080 (.aload_n 2) 1 ∧ dD cL_law 1081 (.aload_n 0) 1) ∧ (dD cL_law 1082 (.iload 4) 2 ∧ dD cL_law 1084 (.iconst 1) 1)) ∧ ((dD cL_law 1085 .iadd 1 ∧ dD cL_law 1086 .iaload 1) ∧ (dD cL_law 1087 (.invokevirtual 125) 3 ∧ dD cL_law 1090 .pop 1)))) := dkA16 (by decide +kernel)
theorem dL_law_k50 : dD cL_law 1091 (.goto 971) 3 := dkA1 (by decide +kernel)
set_option maxHeartbeats 4000000 in
set_option maxRecDepth 100000 in
theorem law_c25 {p : Program} {l : Launch} {e : Env} {s : State} {m : MethodId} {below : List Frame} {meth : Method} {c : Code} {A : Nat → Prop} {g : Gx} {b L : Nat} {xs : Nat → Int32} {h0 mo lo n1 n2 : Nat} {fo : Nat → Int64} {u4 : Int32} {xtpd : Int32} {tpf : Nat → Int32} {yhnf : Nat → Int32} {yhtn : Int32} {yhtf : Nat → Int32} {yhjn : Int32} {yhjf : Nat → Int32} {yhmn : Int32} {yhmf : Nat → Int32} {yhbn : Int32} {yhbf : Nat → Int32} {yhsn : Int32} {yhsf : Nat → Int32} {yhcn : Int32} {yhcf : Nat → Int32} {zrn : Int32} {zmn : Int32} {zwn : Int32} {zpn : Int32} {zmd : Int32} {ztr : Int32} {zrf : Nat → Int32} {zmf : Nat → Int32} {zwf : Nat → Int32} {zpf : Nat → Int32} {kac : Int32} {knx : Int32} {kim : Int32} {cf : Nat → SC} {m_taped : Int32} {d_tape : Nat → Int32} {d_r : Nat → Int32} {d_st : Nat → Int32} {d_undone : Nat → Int32} {d_kept : Nat → Int32} {m_undos : Int32} {m_images : Int32} {m_hasHouse : Int32} {xw mw : va_W} (X : Cx p s m meth c #[Value.ref b] cL_law 7 RL A g) (hX : va_X b L xs s s.heap) (hbl : b < s.heap.size) (hbA : ¬ A b) (hi : 0 ≤ u4.toInt ∧ u4.toInt + 6 ≤ (L : Int)) (hL : L ≤ 3072) (h1 : n1 ≤ 601023) (h2 : n2 ≤ 7293028) (hlt : l.stackTraces = false) (hZ : kZ A s s.heap) (htsE : ∀ w ∈ wsE, w.before #[Value.ref b] s = true) (hx : XW g h0 xtpd tpf yhnf yhtn yhtf yhjn yhjf yhmn yhmf yhbn yhbf yhsn yhsf yhcn yhcf zrn zmn zwn zpn zmd ztr zrf zmf zwf zpf kac knx kim cf xw) (hm : MW g mo m_taped d_tape d_r d_st d_undone d_kept m_undos m_images m_hasHouse mw) (hR : LR xtpd tpf yhnf yhtn yhtf yhjn yhjf yhmn yhmf yhbn yhbf yhsn yhsf yhcn yhcf zrn zmn zwn zpn zmd ztr zrf zmf zwf zpf kac knx kim cf m_taped d_tape d_r d_st d_undone d_kept m_undos m_images m_hasHouse) (kk : ∀ (xtpd_2 : Int32) (tpf_2 : Nat → Int32) (yhnf_2 : Nat → Int32) (yhtn_2 : Int32) (yhtf_2 : Nat → Int32) (yhjn_2 : Int32) (yhjf_2 : Nat → Int32) (yhmn_2 : Int32) (yhmf_2 : Nat → Int32) (yhbn_2 : Int32) (yhbf_2 : Nat → Int32) (yhsn_2 : Int32) (yhsf_2 : Nat → Int32) (yhcn_2 : Int32) (yhcf_2 : Nat → Int32) (zrn_2 : Int32) (zmn_2 : Int32) (zwn_2 : Int32) (zpn_2 : Int32) (zmd_2 : Int32) (ztr_2 : Int32) (zrf_2 : Nat → Int32) (zmf_2 : Nat → Int32) (zwf_2 : Nat → Int32) (zpf_2 : Nat → Int32) (kac_2 : Int32) (knx_2 : Int32) (kim_2 : Int32) (cf_2 : Nat → SC) (m_taped_2 : Int32) (d_tape_2 : Nat → Int32) (d_r_2 : Nat → Int32) (d_st_2 : Nat → Int32) (d_undone_2 : Nat → Int32) (d_kept_2 : Nat → Int32) (m_undos_2 : Int32) (m_images_2 : Int32) (m_hasHouse_2 : Int32) (xw2 mw2 : va_W), XW g h0 xtpd_2 tpf_2 yhnf_2 yhtn_2 yhtf_2 yhjn_2 yhjf_2 yhmn_2 yhmf_2 yhbn_2 yhbf_2 yhsn_2 yhsf_2 yhcn_2 yhcf_2 zrn_2 zmn_2 zwn_2 zpn_2 zmd_2 ztr_2 zrf_2 zmf_2 zwf_2 zpf_2 kac_2 knx_2 kim_2 cf_2 xw2 → MW g mo m_taped_2 d_tape_2 d_r_2 d_st_2 d_undone_2 d_kept_2 m_undos_2 m_images_2 m_hasHouse_2 mw2 → LR xtpd_2 tpf_2 yhnf_2 yhtn_2 yhtf_2 yhjn_2 yhjf_2 yhmn_2 yhmf_2 yhbn_2 yhbf_2 yhsn_2 yhsf_2 yhcn_2 yhcf_2 zrn_2 zmn_2 zwn_2 zpn_2 zmd_2 ztr_2 zrf_2 zmf_2 zwf_2 zpf_2 kac_2 knx_2 kim_2 cf_2 m_taped_2 d_tape_2 d_r_2 d_st_2 d_undone_2 d_kept_2 m_undos_2 m_images_2 m_hasHouse_2 → Wk p l e room_1 s m #[Value.ref b] below meth c (lw_Z below #[Value.ref b] s) A g 7 n1 n2 (xw2 ++ (mw2 ++ [(cAJ g lo 1 fo)])) [(4, .int u4), (3, .ref lo), (2, .ref mo), (1, .ref h0), (0, .ref b)] 2062 []) : Wk p l e room_1 s m #[Value.ref b] below meth c (lw_Z below #[Value.ref b] s) A g 7 n1 n2 (xw ++ (mw ++ [(cAJ g lo 1 fo)])) [(4, .int u4), (3, .ref lo), (2, .ref mo), (1, .ref h0), (0, .ref b)] 1069 [] := by
  have hiv : IV u4 0 3066 := ⟨hi.1, by omega⟩
  refine k_aload_n X dL_law_k49.1.1.1.1 3 rfl ?_
  refine k_aload_n X dL_law_k49.1.1.1.2 4 rfl ?_
  refine k_iload X dL_law_k49.1.1.2.1 0 rfl ?_
  refine k_iconst (v := 1) X dL_law_k49.1.1.2.2 ic_1 ?_
  refine k_iadd X dL_law_k49.1.2.1.1 ?_
  refine k_nm (fun z_1 ez_1 => ?_)
  have i_2 : z_1.toInt = u4.toInt + 1 := in_add ez_1 hiv iq_1_1_1 (zle_e rfl) (zle_e rfl)
  have iv_3 : IV z_1 1 3067 := by have := hiv; have := iq_1_1_1; rw [IV, i_2]; omega
  refine k_sld X hX hbl hbA dL_law_k49.1.2.1.2 (by rw [vp_in_iff]; have := iv_3; omega) ?_
  refine k_nm (fun a_4 ea_4 => ?_)
  refine lx_firstDies (st := []) a_4 X hx dL_law_k49.1.2.2.1 mw1058 (Nat.le_of_ble_eq_true rfl) (Nat.le_of_ble_eq_true rfl) (Nat.le_of_ble_eq_true rfl) (Nat.le_trans h1 (Nat.le_of_ble_eq_true rfl)) (Nat.le_trans h2 (Nat.le_of_ble_eq_true rfl)) (fun r_5 xw_6 hx_7 => ?_)
  refine k_pop X dL_law_k49.1.2.2.2 rfl ?_
  refine k_aload_n X dL_law_k49.2.1.1.1 2 rfl ?_
  refine k_aload_n X dL_law_k49.2.1.1.2 4 rfl ?_
  refine k_iload X dL_law_k49.2.1.2.1 0 rfl ?_
  refine k_iconst (v := 1) X dL_law_k49.2.1.2.2 ic_1 ?_
  refine k_iadd X dL_law_k49.2.2.1.1 ?_
  refine k_to z_1 ez_1.symm ?_
  refine k_sld X hX hbl hbA dL_law_k49.2.2.1.2 (by rw [vp_in_iff]; have := iv_3; omega) ?_
  refine k_to a_4 ea_4.symm ?_
  refine lm_firstDies (st := []) a_4 X hm dL_law_k49.2.2.2.1 mw1067 (Nat.le_of_ble_eq_true rfl) (Nat.le_of_ble_eq_true rfl) (Nat.le_of_ble_eq_true rfl) (Nat.le_trans h1 (Nat.le_of_ble_eq_true rfl)) (Nat.le_trans h2 (Nat.le_of_ble_eq_true rfl)) (fun r_8 mw_9 hm_10 => ?_)
  refine k_pop X dL_law_k49.2.2.2.2 rfl ?_
  refine k_goto 2062 X dL_law_k50 (jp_e rfl) ?_
  exact kk _ _ _ _ _ _ _ _ _ _ _ _ _ _ _ _ _ _ _ _ _ _ _ _ _ _ _ _ _ _ _ _ _ _ _ _ _ _ _ _ hx_7 hm_10 hR

theorem dL_law_k51 : ((((dD cL_law 1094 (.aload_n 1) 1 ∧ dD cL_law 1095 (.aload_n 0) 1) ∧ (dD cL_law 1096 (.iload 4) 2 ∧ dD cL_law 1098 (.iconst 1) 1)) ∧ ((dD cL_law 1099 .iadd 1 ∧ dD cL_law 1100 .iaload 1) ∧ (dD cL_law 1101 (.aload_n 0) 1 ∧ dD cL_law 1102 (.iload 4) 2))) ∧ (((dD cL_law 1104 (.iconst 2) 1 ∧ dD cL_law 1105 .iadd 1) ∧ (dD cL_law 1106 .iaload 1 ∧ dD cL_law 1107 (.invokevirtual 126) 3)) ∧ ((dD cL_law 1110 .pop 1 ∧ dD cL_law 1111 (.aload_n 2) 1) ∧ (dD cL_law 1112 (.aload_n 0) 1 ∧ dD cL_law 1113 (.iload 4) 2)))) := dkA16 (by decide +kernel)
theorem dL_law_k52 : (((dD cL_law 1115 (.iconst 1) 1 ∧ dD cL_law 1116 .iadd 1) ∧ (dD cL_law 1117 .iaload 1 ∧ (dD cL_law 1118 (.aload_n 0) 1 ∧ dD cL_law 1119 (.iload 4) 2))) ∧ ((dD cL_law 1121 (.iconst 2) 1 ∧ (dD cL_law 1122 .iadd 1 ∧ dD cL_law 1123 .iaload 1)) ∧ (dD cL_law 1124 (.invokevirtual 129) 3 ∧ (dD cL_law 1127 .pop 1 ∧ dD cL_law 1128 (.goto 934) 3)))) := dkA11 (by decide +kernel)
set_option maxHeartbeats 4000000 in
set_option maxRecDepth 100000 in
theorem law_c26 {p : Program} {l : Launch} {e : Env} {s : State} {m : MethodId} {below : List Frame} {meth : Method} {c : Code} {A : Nat → Prop} {g : Gx} {b L : Nat} {xs : Nat → Int32} {h0 mo lo n1 n2 : Nat} {fo : Nat → Int64} {u4 : Int32} {xtpd : Int32} {tpf : Nat → Int32} {yhnf : Nat → Int32} {yhtn : Int32} {yhtf : Nat → Int32} {yhjn : Int32} {yhjf : Nat → Int32} {yhmn : Int32} {yhmf : Nat → Int32} {yhbn : Int32} {yhbf : Nat → Int32} {yhsn : Int32} {yhsf : Nat → Int32} {yhcn : Int32} {yhcf : Nat → Int32} {zrn : Int32} {zmn : Int32} {zwn : Int32} {zpn : Int32} {zmd : Int32} {ztr : Int32} {zrf : Nat → Int32} {zmf : Nat → Int32} {zwf : Nat → Int32} {zpf : Nat → Int32} {kac : Int32} {knx : Int32} {kim : Int32} {cf : Nat → SC} {m_taped : Int32} {d_tape : Nat → Int32} {d_r : Nat → Int32} {d_st : Nat → Int32} {d_undone : Nat → Int32} {d_kept : Nat → Int32} {m_undos : Int32} {m_images : Int32} {m_hasHouse : Int32} {xw mw : va_W} (X : Cx p s m meth c #[Value.ref b] cL_law 7 RL A g) (hX : va_X b L xs s s.heap) (hbl : b < s.heap.size) (hbA : ¬ A b) (hi : 0 ≤ u4.toInt ∧ u4.toInt + 6 ≤ (L : Int)) (hL : L ≤ 3072) (h1 : n1 ≤ 601023) (h2 : n2 ≤ 7293028) (hlt : l.stackTraces = false) (hZ : kZ A s s.heap) (htsE : ∀ w ∈ wsE, w.before #[Value.ref b] s = true) (hx : XW g h0 xtpd tpf yhnf yhtn yhtf yhjn yhjf yhmn yhmf yhbn yhbf yhsn yhsf yhcn yhcf zrn zmn zwn zpn zmd ztr zrf zmf zwf zpf kac knx kim cf xw) (hm : MW g mo m_taped d_tape d_r d_st d_undone d_kept m_undos m_images m_hasHouse mw) (hR : LR xtpd tpf yhnf yhtn yhtf yhjn yhjf yhmn yhmf yhbn yhbf yhsn yhsf yhcn yhcf zrn zmn zwn zpn zmd ztr zrf zmf zwf zpf kac knx kim cf m_taped d_tape d_r d_st d_undone d_kept m_undos m_images m_hasHouse) (kk : ∀ (xtpd_2 : Int32) (tpf_2 : Nat → Int32) (yhnf_2 : Nat → Int32) (yhtn_2 : Int32) (yhtf_2 : Nat → Int32) (yhjn_2 : Int32) (yhjf_2 : Nat → Int32) (yhmn_2 : Int32) (yhmf_2 : Nat → Int32) (yhbn_2 : Int32) (yhbf_2 : Nat → Int32) (yhsn_2 : Int32) (yhsf_2 : Nat → Int32) (yhcn_2 : Int32) (yhcf_2 : Nat → Int32) (zrn_2 : Int32) (zmn_2 : Int32) (zwn_2 : Int32) (zpn_2 : Int32) (zmd_2 : Int32) (ztr_2 : Int32) (zrf_2 : Nat → Int32) (zmf_2 : Nat → Int32) (zwf_2 : Nat → Int32) (zpf_2 : Nat → Int32) (kac_2 : Int32) (knx_2 : Int32) (kim_2 : Int32) (cf_2 : Nat → SC) (m_taped_2 : Int32) (d_tape_2 : Nat → Int32) (d_r_2 : Nat → Int32) (d_st_2 : Nat → Int32) (d_undone_2 : Nat → Int32) (d_kept_2 : Nat → Int32) (m_undos_2 : Int32) (m_images_2 : Int32) (m_hasHouse_2 : Int32) (xw2 mw2 : va_W), XW g h0 xtpd_2 tpf_2 yhnf_2 yhtn_2 yhtf_2 yhjn_2 yhjf_2 yhmn_2 yhmf_2 yhbn_2 yhbf_2 yhsn_2 yhsf_2 yhcn_2 yhcf_2 zrn_2 zmn_2 zwn_2 zpn_2 zmd_2 ztr_2 zrf_2 zmf_2 zwf_2 zpf_2 kac_2 knx_2 kim_2 cf_2 xw2 → MW g mo m_taped_2 d_tape_2 d_r_2 d_st_2 d_undone_2 d_kept_2 m_undos_2 m_images_2 m_hasHouse_2 mw2 → LR xtpd_2 tpf_2 yhnf_2 yhtn_2 yhtf_2 yhjn_2 yhjf_2 yhmn_2 yhmf_2 yhbn_2 yhbf_2 yhsn_2 yhsf_2 yhcn_2 yhcf_2 zrn_2 zmn_2 zwn_2 zpn_2 zmd_2 ztr_2 zrf_2 zmf_2 zwf_2 zpf_2 kac_2 knx_2 kim_2 cf_2 m_taped_2 d_tape_2 d_r_2 d_st_2 d_undone_2 d_kept_2 m_undos_2 m_images_2 m_hasHouse_2 → Wk p l e room_1 s m #[Value.ref b] below meth c (lw_Z below #[Value.ref b] s) A g 7 n1 n2 (xw2 ++ (mw2 ++ [(cAJ g lo 1 fo)])) [(4, .int u4), (3, .ref lo), (2, .ref mo), (1, .ref h0), (0, .ref b)] 2062 []) : Wk p l e room_1 s m #[Value.ref b] below meth c (lw_Z below #[Value.ref b] s) A g 7 n1 n2 (xw ++ (mw ++ [(cAJ g lo 1 fo)])) [(4, .int u4), (3, .ref lo), (2, .ref mo), (1, .ref h0), (0, .ref b)] 1094 [] := by
  have hiv : IV u4 0 3066 := ⟨hi.1, by omega⟩
  refine k_aload_n X dL_law_k51.1.1.1.1 3 rfl ?_
  refine k_aload_n X dL_law_k51.1.1.1.2 4 rfl ?_
  refine k_iload X dL_law_k51.1.1.2.1 0 rfl ?_
  refine k_iconst (v := 1) X dL_law_k51.1.1.2.2 ic_1 ?_
  refine k_iadd X dL_law_k51.1.2.1.1 ?_
  refine k_nm (fun z_1 ez_1 => ?_)
  have i_2 : z_1.toInt = u4.toInt + 1 := in_add ez_1 hiv iq_1_1_1 (zle_e rfl) (zle_e rfl)
  have iv_3 : IV z_1 1 3067 := by have := hiv; have := iq_1_1_1; rw [IV, i_2]; omega
  refine k_sld X hX hbl hbA dL_law_k51.1.2.1.2 (by rw [vp_in_iff]; have := iv_3; omega) ?_
  refine k_nm (fun a_4 ea_4 => ?_)
  refine k_aload_n X dL_law_k51.1.2.2.1 4 rfl ?_
  refine k_iload X dL_law_k51.1.2.2.2 0 rfl ?_
  refine k_iconst (v := 2) X dL_law_k51.2.1.1.1 ic_2 ?_
  refine k_iadd X dL_law_k51.2.1.1.2 ?_
  refine k_nm (fun z_5 ez_5 => ?_)
  have i_6 : z_5.toInt = u4.toInt + 2 := in_add ez_5 hiv iq_2_2_2 (zle_e rfl) (zle_e rfl)
  have iv_7 : IV z_5 2 3068 := by have := hiv; have := iq_2_2_2; rw [IV, i_6]; omega
  refine k_sld X hX hbl hbA dL_law_k51.2.1.2.1 (by rw [vp_in_iff]; have := iv_7; omega) ?_
  refine k_nm (fun a_8 ea_8 => ?_)
  refine lx_free (st := []) a_4 a_8 X hx dL_law_k51.2.1.2.2 mw1071 (Nat.le_of_ble_eq_true rfl) (Nat.le_of_ble_eq_true rfl) (Nat.le_of_ble_eq_true rfl) (Nat.le_trans h1 (Nat.le_of_ble_eq_true rfl)) (Nat.le_trans h2 (Nat.le_of_ble_eq_true rfl)) (fun r_9 xw_10 hx_11 => ?_)
  refine k_pop X dL_law_k51.2.2.1.1 rfl ?_
  refine k_aload_n X dL_law_k51.2.2.1.2 2 rfl ?_
  refine k_aload_n X dL_law_k51.2.2.2.1 4 rfl ?_
  refine k_iload X dL_law_k51.2.2.2.2 0 rfl ?_
  refine k_iconst (v := 1) X dL_law_k52.1.1.1 ic_1 ?_
  refine k_iadd X dL_law_k52.1.1.2 ?_
  refine k_to z_1 ez_1.symm ?_
  refine k_sld X hX hbl hbA dL_law_k52.1.2.1 (by rw [vp_in_iff]; have := iv_3; omega) ?_
  refine k_to a_4 ea_4.symm ?_
  refine k_aload_n X dL_law_k52.1.2.2.1 4 rfl ?_
  refine k_iload X dL_law_k52.1.2.2.2 0 rfl ?_
  refine k_iconst (v := 2) X dL_law_k52.2.1.1 ic_2 ?_
  refine k_iadd X dL_law_k52.2.1.2.1 ?_
  refine k_to z_5 ez_5.symm ?_
  refine k_sld X hX hbl hbA dL_law_k52.2.1.2.2 (by rw [vp_in_iff]; have := iv_7; omega) ?_
  refine k_to a_8 ea_8.symm ?_
  refine lm_free (st := []) a_4 a_8 X hm dL_law_k52.2.2.1 mw1076 (Nat.le_of_ble_eq_true rfl) (Nat.le_of_ble_eq_true rfl) (Nat.le_of_ble_eq_true rfl) (Nat.le_trans h1 (Nat.le_of_ble_eq_true rfl)) (Nat.le_trans h2 (Nat.le_of_ble_eq_true rfl)) (fun r_12 mw_13 hm_14 => ?_)
  refine k_pop X dL_law_k52.2.2.2.1 rfl ?_
  refine k_goto 2062 X dL_law_k52.2.2.2.2 (jp_e rfl) ?_
  exact kk _ _ _ _ _ _ _ _ _ _ _ _ _ _ _ _ _ _ _ _ _ _ _ _ _ _ _ _ _ _ _ _ _ _ _ _ _ _ _ _ hx_11 hm_14 hR

theorem dL_law_k53 : ((((dD cL_law 1131 (.aload_n 1) 1 ∧ dD cL_law 1132 (.aload_n 0) 1) ∧ (dD cL_law 1133 (.iload 4) 2 ∧ dD cL_law 1135 (.iconst 1) 1)) ∧ ((dD cL_law 1136 .iadd 1 ∧ dD cL_law 1137 .iaload 1) ∧ (dD cL_law 1138 (.aload_n 0) 1 ∧ dD cL_law 1139 (.iload 4) 2))) ∧ (((dD cL_law 1141 (.iconst 2) 1 ∧ dD cL_law 1142 .iadd 1) ∧ (dD cL_law 1143 .iaload 1 ∧ dD cL_law 1144 (.invokevirtual 130) 3)) ∧ ((dD cL_law 1147 .pop 1 ∧ dD cL_law 1148 (.aload_n 2) 1) ∧ (dD cL_law 1149 (.aload_n 0) 1 ∧ dD cL_law 1150 (.iload 4) 2)))) := dkA16 (by decide +kernel)
theorem dL_law_k54 : (((dD cL_law 1152 (.iconst 1) 1 ∧ dD cL_law 1153 .iadd 1) ∧ (dD cL_law 1154 .iaload 1 ∧ (dD cL_law 1155 (.aload_n 0) 1 ∧ dD cL_law 1156 (.iload 4) 2))) ∧ ((dD cL_law 1158 (.iconst 2) 1 ∧ (dD cL_law 1159 .iadd 1 ∧ dD cL_law 1160 .iaload 1)) ∧ (dD cL_law 1161 (.invokevirtual 133) 3 ∧ (dD cL_law 1164 .pop 1 ∧ dD cL_law 1165 (.goto 897) 3)))) := dkA11 (by decide +kernel)
set_option maxHeartbeats 4000000 in
set_option maxRecDepth 100000 in
theorem law_c27 {p : Program} {l : Launch} {e : Env} {s : State} {m : MethodId} {below : List Frame} {meth : Method} {c : Code} {A : Nat → Prop} {g : Gx} {b L : Nat} {xs : Nat → Int32} {h0 mo lo n1 n2 : Nat} {fo : Nat → Int64} {u4 : Int32} {xtpd : Int32} {tpf : Nat → Int32} {yhnf : Nat → Int32} {yhtn : Int32} {yhtf : Nat → Int32} {yhjn : Int32} {yhjf : Nat → Int32} {yhmn : Int32} {yhmf : Nat → Int32} {yhbn : Int32} {yhbf : Nat → Int32} {yhsn : Int32} {yhsf : Nat → Int32} {yhcn : Int32} {yhcf : Nat → Int32} {zrn : Int32} {zmn : Int32} {zwn : Int32} {zpn : Int32} {zmd : Int32} {ztr : Int32} {zrf : Nat → Int32} {zmf : Nat → Int32} {zwf : Nat → Int32} {zpf : Nat → Int32} {kac : Int32} {knx : Int32} {kim : Int32} {cf : Nat → SC} {m_taped : Int32} {d_tape : Nat → Int32} {d_r : Nat → Int32} {d_st : Nat → Int32} {d_undone : Nat → Int32} {d_kept : Nat → Int32} {m_undos : Int32} {m_images : Int32} {m_hasHouse : Int32} {xw mw : va_W} (X : Cx p s m meth c #[Value.ref b] cL_law 7 RL A g) (hX : va_X b L xs s s.heap) (hbl : b < s.heap.size) (hbA : ¬ A b) (hi : 0 ≤ u4.toInt ∧ u4.toInt + 6 ≤ (L : Int)) (hL : L ≤ 3072) (h1 : n1 ≤ 601023) (h2 : n2 ≤ 7293028) (hlt : l.stackTraces = false) (hZ : kZ A s s.heap) (htsE : ∀ w ∈ wsE, w.before #[Value.ref b] s = true) (hx : XW g h0 xtpd tpf yhnf yhtn yhtf yhjn yhjf yhmn yhmf yhbn yhbf yhsn yhsf yhcn yhcf zrn zmn zwn zpn zmd ztr zrf zmf zwf zpf kac knx kim cf xw) (hm : MW g mo m_taped d_tape d_r d_st d_undone d_kept m_undos m_images m_hasHouse mw) (hR : LR xtpd tpf yhnf yhtn yhtf yhjn yhjf yhmn yhmf yhbn yhbf yhsn yhsf yhcn yhcf zrn zmn zwn zpn zmd ztr zrf zmf zwf zpf kac knx kim cf m_taped d_tape d_r d_st d_undone d_kept m_undos m_images m_hasHouse) (kk : ∀ (xtpd_2 : Int32) (tpf_2 : Nat → Int32) (yhnf_2 : Nat → Int32) (yhtn_2 : Int32) (yhtf_2 : Nat → Int32) (yhjn_2 : Int32) (yhjf_2 : Nat → Int32) (yhmn_2 : Int32) (yhmf_2 : Nat → Int32) (yhbn_2 : Int32) (yhbf_2 : Nat → Int32) (yhsn_2 : Int32) (yhsf_2 : Nat → Int32) (yhcn_2 : Int32) (yhcf_2 : Nat → Int32) (zrn_2 : Int32) (zmn_2 : Int32) (zwn_2 : Int32) (zpn_2 : Int32) (zmd_2 : Int32) (ztr_2 : Int32) (zrf_2 : Nat → Int32) (zmf_2 : Nat → Int32) (zwf_2 : Nat → Int32) (zpf_2 : Nat → Int32) (kac_2 : Int32) (knx_2 : Int32) (kim_2 : Int32) (cf_2 : Nat → SC) (m_taped_2 : Int32) (d_tape_2 : Nat → Int32) (d_r_2 : Nat → Int32) (d_st_2 : Nat → Int32) (d_undone_2 : Nat → Int32) (d_kept_2 : Nat → Int32) (m_undos_2 : Int32) (m_images_2 : Int32) (m_hasHouse_2 : Int32) (xw2 mw2 : va_W), XW g h0 xtpd_2 tpf_2 yhnf_2 yhtn_2 yhtf_2 yhjn_2 yhjf_2 yhmn_2 yhmf_2 yhbn_2 yhbf_2 yhsn_2 yhsf_2 yhcn_2 yhcf_2 zrn_2 zmn_2 zwn_2 zpn_2 zmd_2 ztr_2 zrf_2 zmf_2 zwf_2 zpf_2 kac_2 knx_2 kim_2 cf_2 xw2 → MW g mo m_taped_2 d_tape_2 d_r_2 d_st_2 d_undone_2 d_kept_2 m_undos_2 m_images_2 m_hasHouse_2 mw2 → LR xtpd_2 tpf_2 yhnf_2 yhtn_2 yhtf_2 yhjn_2 yhjf_2 yhmn_2 yhmf_2 yhbn_2 yhbf_2 yhsn_2 yhsf_2 yhcn_2 yhcf_2 zrn_2 zmn_2 zwn_2 zpn_2 zmd_2 ztr_2 zrf_2 zmf_2 zwf_2 zpf_2 kac_2 knx_2 kim_2 cf_2 m_taped_2 d_tape_2 d_r_2 d_st_2 d_undone_2 d_kept_2 m_undos_2 m_images_2 m_hasHouse_2 → Wk p l e room_1 s m #[Value.ref b] below meth c (lw_Z below #[Value.ref b] s) A g 7 n1 n2 (xw2 ++ (mw2 ++ [(cAJ g lo 1 fo)])) [(4, .int u4), (3, .ref lo), (2, .ref mo), (1, .ref h0), (0, .ref b)] 2062 []) : Wk p l e room_1 s m #[Value.ref b] below meth c (lw_Z below #[Value.ref b] s) A g 7 n1 n2 (xw ++ (mw ++ [(cAJ g lo 1 fo)])) [(4, .int u4), (3, .ref lo), (2, .ref mo), (1, .ref h0), (0, .ref b)] 1131 [] := by
  have hiv : IV u4 0 3066 := ⟨hi.1, by omega⟩
  refine k_aload_n X dL_law_k53.1.1.1.1 3 rfl ?_
  refine k_aload_n X dL_law_k53.1.1.1.2 4 rfl ?_
  refine k_iload X dL_law_k53.1.1.2.1 0 rfl ?_
  refine k_iconst (v := 1) X dL_law_k53.1.1.2.2 ic_1 ?_
  refine k_iadd X dL_law_k53.1.2.1.1 ?_
  refine k_nm (fun z_1 ez_1 => ?_)
  have i_2 : z_1.toInt = u4.toInt + 1 := in_add ez_1 hiv iq_1_1_1 (zle_e rfl) (zle_e rfl)
  have iv_3 : IV z_1 1 3067 := by have := hiv; have := iq_1_1_1; rw [IV, i_2]; omega
  refine k_sld X hX hbl hbA dL_law_k53.1.2.1.2 (by rw [vp_in_iff]; have := iv_3; omega) ?_
  refine k_nm (fun a_4 ea_4 => ?_)
  refine k_aload_n X dL_law_k53.1.2.2.1 4 rfl ?_
  refine k_iload X dL_law_k53.1.2.2.2 0 rfl ?_
  refine k_iconst (v := 2) X dL_law_k53.2.1.1.1 ic_2 ?_
  refine k_iadd X dL_law_k53.2.1.1.2 ?_
  refine k_nm (fun z_5 ez_5 => ?_)
  have i_6 : z_5.toInt = u4.toInt + 2 := in_add ez_5 hiv iq_2_2_2 (zle_e rfl) (zle_e rfl)
  have iv_7 : IV z_5 2 3068 := by have := hiv; have := iq_2_2_2; rw [IV, i_6]; omega
  refine k_sld X hX hbl hbA dL_law_k53.2.1.2.1 (by rw [vp_in_iff]; have := iv_7; omega) ?_
  refine k_nm (fun a_8 ea_8 => ?_)
  refine lx_arc (st := []) a_4 a_8 X hx dL_law_k53.2.1.2.2 mw1080 (Nat.le_of_ble_eq_true rfl) (Nat.le_of_ble_eq_true rfl) (Nat.le_of_ble_eq_true rfl) (Nat.le_trans h1 (Nat.le_of_ble_eq_true rfl)) (Nat.le_trans h2 (Nat.le_of_ble_eq_true rfl)) (fun r_9 xw_10 hx_11 => ?_)
  refine k_pop X dL_law_k53.2.2.1.1 rfl ?_
  refine k_aload_n X dL_law_k53.2.2.1.2 2 rfl ?_
  refine k_aload_n X dL_law_k53.2.2.2.1 4 rfl ?_
  refine k_iload X dL_law_k53.2.2.2.2 0 rfl ?_
  refine k_iconst (v := 1) X dL_law_k54.1.1.1 ic_1 ?_
  refine k_iadd X dL_law_k54.1.1.2 ?_
  refine k_to z_1 ez_1.symm ?_
  refine k_sld X hX hbl hbA dL_law_k54.1.2.1 (by rw [vp_in_iff]; have := iv_3; omega) ?_
  refine k_to a_4 ea_4.symm ?_
  refine k_aload_n X dL_law_k54.1.2.2.1 4 rfl ?_
  refine k_iload X dL_law_k54.1.2.2.2 0 rfl ?_
  refine k_iconst (v := 2) X dL_law_k54.2.1.1 ic_2 ?_
  refine k_iadd X dL_law_k54.2.1.2.1 ?_
  refine k_to z_5 ez_5.symm ?_
  refine k_sld X hX hbl hbA dL_law_k54.2.1.2.2 (by rw [vp_in_iff]; have := iv_7; omega) ?_
  refine k_to a_8 ea_8.symm ?_
  refine lm_arc (st := []) a_4 a_8 X hm dL_law_k54.2.2.1 mw1085 (Nat.le_of_ble_eq_true rfl) (Nat.le_of_ble_eq_true rfl) (Nat.le_of_ble_eq_true rfl) (Nat.le_trans h1 (Nat.le_of_ble_eq_true rfl)) (Nat.le_trans h2 (Nat.le_of_ble_eq_true rfl)) (fun r_12 mw_13 hm_14 => ?_)
  refine k_pop X dL_law_k54.2.2.2.1 rfl ?_
  refine k_goto 2062 X dL_law_k54.2.2.2.2 (jp_e rfl) ?_
  exact kk _ _ _ _ _ _ _ _ _ _ _ _ _ _ _ _ _ _ _ _ _ _ _ _ _ _ _ _ _ _ _ _ _ _ _ _ _ _ _ _ hx_11 hm_14 hR

theorem dL_law_k55 : ((((dD cL_law 1168 (.aload_n 1) 1 ∧ dD cL_law 1169 (.aload_n 0) 1) ∧ (dD cL_law 1170 (.iload 4) 2 ∧ dD cL_law 1172 (.iconst 1) 1)) ∧ ((dD cL_law 1173 .iadd 1 ∧ dD cL_law 1174 .iaload 1) ∧ (dD cL_law 1175 (.invokevirtual 134) 3 ∧ dD cL_law 1178 .pop 1))) ∧ (((dD cL_law 1179 (.aload_n 2) 1 ∧ dD cL_law 1180 (.aload_n 0) 1) ∧ (dD cL_law 1181 (.iload 4) 2 ∧ dD cL_law 1183 (.iconst 1) 1)) ∧ ((dD cL_law 1184 .iadd 1 ∧ dD cL_law 1185 .iaload 1) ∧ (dD cL_law 1186 (.invokevirtual 137) 3 ∧ dD cL_law 1189 .pop 1)))) := dkA16 (by decide +kernel)
theorem dL_law_k56 : dD cL_law 1190 (.goto 872) 3 := dkA1 (by decide +kernel)
set_option maxHeartbeats 4000000 in
set_option maxRecDepth 100000 in
theorem law_c28 {p : Program} {l : Launch} {e : Env} {s : State} {m : MethodId} {below : List Frame} {meth : Method} {c : Code} {A : Nat → Prop} {g : Gx} {b L : Nat} {xs : Nat → Int32} {h0 mo lo n1 n2 : Nat} {fo : Nat → Int64} {u4 : Int32} {xtpd : Int32} {tpf : Nat → Int32} {yhnf : Nat → Int32} {yhtn : Int32} {yhtf : Nat → Int32} {yhjn : Int32} {yhjf : Nat → Int32} {yhmn : Int32} {yhmf : Nat → Int32} {yhbn : Int32} {yhbf : Nat → Int32} {yhsn : Int32} {yhsf : Nat → Int32} {yhcn : Int32} {yhcf : Nat → Int32} {zrn : Int32} {zmn : Int32} {zwn : Int32} {zpn : Int32} {zmd : Int32} {ztr : Int32} {zrf : Nat → Int32} {zmf : Nat → Int32} {zwf : Nat → Int32} {zpf : Nat → Int32} {kac : Int32} {knx : Int32} {kim : Int32} {cf : Nat → SC} {m_taped : Int32} {d_tape : Nat → Int32} {d_r : Nat → Int32} {d_st : Nat → Int32} {d_undone : Nat → Int32} {d_kept : Nat → Int32} {m_undos : Int32} {m_images : Int32} {m_hasHouse : Int32} {xw mw : va_W} (X : Cx p s m meth c #[Value.ref b] cL_law 7 RL A g) (hX : va_X b L xs s s.heap) (hbl : b < s.heap.size) (hbA : ¬ A b) (hi : 0 ≤ u4.toInt ∧ u4.toInt + 6 ≤ (L : Int)) (hL : L ≤ 3072) (h1 : n1 ≤ 601023) (h2 : n2 ≤ 7293028) (hlt : l.stackTraces = false) (hZ : kZ A s s.heap) (htsE : ∀ w ∈ wsE, w.before #[Value.ref b] s = true) (hx : XW g h0 xtpd tpf yhnf yhtn yhtf yhjn yhjf yhmn yhmf yhbn yhbf yhsn yhsf yhcn yhcf zrn zmn zwn zpn zmd ztr zrf zmf zwf zpf kac knx kim cf xw) (hm : MW g mo m_taped d_tape d_r d_st d_undone d_kept m_undos m_images m_hasHouse mw) (hR : LR xtpd tpf yhnf yhtn yhtf yhjn yhjf yhmn yhmf yhbn yhbf yhsn yhsf yhcn yhcf zrn zmn zwn zpn zmd ztr zrf zmf zwf zpf kac knx kim cf m_taped d_tape d_r d_st d_undone d_kept m_undos m_images m_hasHouse) (kk : ∀ (xtpd_2 : Int32) (tpf_2 : Nat → Int32) (yhnf_2 : Nat → Int32) (yhtn_2 : Int32) (yhtf_2 : Nat → Int32) (yhjn_2 : Int32) (yhjf_2 : Nat → Int32) (yhmn_2 : Int32) (yhmf_2 : Nat → Int32) (yhbn_2 : Int32) (yhbf_2 : Nat → Int32) (yhsn_2 : Int32) (yhsf_2 : Nat → Int32) (yhcn_2 : Int32) (yhcf_2 : Nat → Int32) (zrn_2 : Int32) (zmn_2 : Int32) (zwn_2 : Int32) (zpn_2 : Int32) (zmd_2 : Int32) (ztr_2 : Int32) (zrf_2 : Nat → Int32) (zmf_2 : Nat → Int32) (zwf_2 : Nat → Int32) (zpf_2 : Nat → Int32) (kac_2 : Int32) (knx_2 : Int32) (kim_2 : Int32) (cf_2 : Nat → SC) (m_taped_2 : Int32) (d_tape_2 : Nat → Int32) (d_r_2 : Nat → Int32) (d_st_2 : Nat → Int32) (d_undone_2 : Nat → Int32) (d_kept_2 : Nat → Int32) (m_undos_2 : Int32) (m_images_2 : Int32) (m_hasHouse_2 : Int32) (xw2 mw2 : va_W), XW g h0 xtpd_2 tpf_2 yhnf_2 yhtn_2 yhtf_2 yhjn_2 yhjf_2 yhmn_2 yhmf_2 yhbn_2 yhbf_2 yhsn_2 yhsf_2 yhcn_2 yhcf_2 zrn_2 zmn_2 zwn_2 zpn_2 zmd_2 ztr_2 zrf_2 zmf_2 zwf_2 zpf_2 kac_2 knx_2 kim_2 cf_2 xw2 → MW g mo m_taped_2 d_tape_2 d_r_2 d_st_2 d_undone_2 d_kept_2 m_undos_2 m_images_2 m_hasHouse_2 mw2 → LR xtpd_2 tpf_2 yhnf_2 yhtn_2 yhtf_2 yhjn_2 yhjf_2 yhmn_2 yhmf_2 yhbn_2 yhbf_2 yhsn_2 yhsf_2 yhcn_2 yhcf_2 zrn_2 zmn_2 zwn_2 zpn_2 zmd_2 ztr_2 zrf_2 zmf_2 zwf_2 zpf_2 kac_2 knx_2 kim_2 cf_2 m_taped_2 d_tape_2 d_r_2 d_st_2 d_undone_2 d_kept_2 m_undos_2 m_images_2 m_hasHouse_2 → Wk p l e room_1 s m #[Value.ref b] below meth c (lw_Z below #[Value.ref b] s) A g 7 n1 n2 (xw2 ++ (mw2 ++ [(cAJ g lo 1 fo)])) [(4, .int u4), (3, .ref lo), (2, .ref mo), (1, .ref h0), (0, .ref b)] 2062 []) : Wk p l e room_1 s m #[Value.ref b] below meth c (lw_Z below #[Value.ref b] s) A g 7 n1 n2 (xw ++ (mw ++ [(cAJ g lo 1 fo)])) [(4, .int u4), (3, .ref lo), (2, .ref mo), (1, .ref h0), (0, .ref b)] 1168 [] := by
  have hiv : IV u4 0 3066 := ⟨hi.1, by omega⟩
  refine k_aload_n X dL_law_k55.1.1.1.1 3 rfl ?_
  refine k_aload_n X dL_law_k55.1.1.1.2 4 rfl ?_
  refine k_iload X dL_law_k55.1.1.2.1 0 rfl ?_
  refine k_iconst (v := 1) X dL_law_k55.1.1.2.2 ic_1 ?_
  refine k_iadd X dL_law_k55.1.2.1.1 ?_
  refine k_nm (fun z_1 ez_1 => ?_)
  have i_2 : z_1.toInt = u4.toInt + 1 := in_add ez_1 hiv iq_1_1_1 (zle_e rfl) (zle_e rfl)
  have iv_3 : IV z_1 1 3067 := by have := hiv; have := iq_1_1_1; rw [IV, i_2]; omega
  refine k_sld X hX hbl hbA dL_law_k55.1.2.1.2 (by rw [vp_in_iff]; have := iv_3; omega) ?_
  refine k_nm (fun a_4 ea_4 => ?_)
  refine lx_never (st := []) a_4 X hx dL_law_k55.1.2.2.1 mw1089 (Nat.le_of_ble_eq_true rfl) (Nat.le_of_ble_eq_true rfl) (Nat.le_of_ble_eq_true rfl) (Nat.le_trans h1 (Nat.le_of_ble_eq_true rfl)) (Nat.le_trans h2 (Nat.le_of_ble_eq_true rfl)) (fun r_5 xw_6 hx_7 => ?_)
  refine k_pop X dL_law_k55.1.2.2.2 rfl ?_
  refine k_aload_n X dL_law_k55.2.1.1.1 2 rfl ?_
  refine k_aload_n X dL_law_k55.2.1.1.2 4 rfl ?_
  refine k_iload X dL_law_k55.2.1.2.1 0 rfl ?_
  refine k_iconst (v := 1) X dL_law_k55.2.1.2.2 ic_1 ?_
  refine k_iadd X dL_law_k55.2.2.1.1 ?_
  refine k_to z_1 ez_1.symm ?_
  refine k_sld X hX hbl hbA dL_law_k55.2.2.1.2 (by rw [vp_in_iff]; have := iv_3; omega) ?_
  refine k_to a_4 ea_4.symm ?_
  refine lm_never (st := []) a_4 X hm dL_law_k55.2.2.2.1 mw1106 (Nat.le_of_ble_eq_true rfl) (Nat.le_of_ble_eq_true rfl) (Nat.le_of_ble_eq_true rfl) (Nat.le_trans h1 (Nat.le_of_ble_eq_true rfl)) (Nat.le_trans h2 (Nat.le_of_ble_eq_true rfl)) (fun r_8 mw_9 hm_10 => ?_)
  refine k_pop X dL_law_k55.2.2.2.2 rfl ?_
  refine k_goto 2062 X dL_law_k56 (jp_e rfl) ?_
  exact kk _ _ _ _ _ _ _ _ _ _ _ _ _ _ _ _ _ _ _ _ _ _ _ _ _ _ _ _ _ _ _ _ _ _ _ _ _ _ _ _ hx_7 hm_10 hR

theorem dL_law_k57 : ((((dD cL_law 1193 (.aload_n 1) 1 ∧ dD cL_law 1194 (.aload_n 0) 1) ∧ (dD cL_law 1195 (.iload 4) 2 ∧ dD cL_law 1197 (.iconst 1) 1)) ∧ ((dD cL_law 1198 .iadd 1 ∧ dD cL_law 1199 .iaload 1) ∧ (dD cL_law 1200 (.aload_n 0) 1 ∧ dD cL_law 1201 (.iload 4) 2))) ∧ (((dD cL_law 1203 (.iconst 2) 1 ∧ dD cL_law 1204 .iadd 1) ∧ (dD cL_law 1205 .iaload 1 ∧ dD cL_law 1206 (.aload_n 0) 1)) ∧ ((dD cL_law 1207 (.iload 4) 2 ∧ dD cL_law 1209 (.iconst 3) 1) ∧ (dD cL_law 1210 .iadd 1 ∧ dD cL_law 1211 .iaload 1)))) := dkA16 (by decide +kernel)
theorem dL_law_k58 : ((((dD cL_law 1212 (.ifCond .eq 7) 3 ∧ dD cL_law 1215 (.iconst 1) 1) ∧ (dD cL_law 1216 (.goto 4) 3 ∧ dD cL_law 1219 (.iconst 0) 1)) ∧ ((dD cL_law 1220 (.invokevirtual 138) 3 ∧ dD cL_law 1223 .pop2 1) ∧ (dD cL_law 1224 (.aload_n 2) 1 ∧ dD cL_law 1225 (.aload_n 0) 1))) ∧ (((dD cL_law 1226 (.iload 4) 2 ∧ dD cL_law 1228 (.iconst 1) 1) ∧ (dD cL_law 1229 .iadd 1 ∧ dD cL_law 1230 .iaload 1)) ∧ ((dD cL_law 1231 (.aload_n 0) 1 ∧ dD cL_law 1232 (.iload 4) 2) ∧ (dD cL_law 1234 (.iconst 2) 1 ∧ dD cL_law 1235 .iadd 1)))) := dkA16 (by decide +kernel)
theorem dL_law_k59 : (((dD cL_law 1236 .iaload 1 ∧ (dD cL_law 1237 (.aload_n 0) 1 ∧ dD cL_law 1238 (.iload 4) 2)) ∧ (dD cL_law 1240 (.iconst 3) 1 ∧ (dD cL_law 1241 .iadd 1 ∧ dD cL_law 1242 .iaload 1))) ∧ ((dD cL_law 1243 (.ifCond .eq 7) 3 ∧ (dD cL_law 1246 (.iconst 1) 1 ∧ dD cL_law 1247 (.goto 4) 3)) ∧ ((dD cL_law 1250 (.iconst 0) 1 ∧ dD cL_law 1251 (.invokevirtual 142) 3) ∧ (dD cL_law 1254 .pop2 1 ∧ dD cL_law 1255 (.goto 807) 3)))) := dkA13 (by decide +kernel)
set_option maxHeartbeats 4000000 in
set_option maxRecDepth 100000 in
theorem law_c29 {p : Program} {l : Launch} {e : Env} {s : State} {m : MethodId} {below : List Frame} {meth : Method} {c : Code} {A : Nat → Prop} {g : Gx} {b L : Nat} {xs : Nat → Int32} {h0 mo lo n1 n2 : Nat} {fo : Nat → Int64} {u4 : Int32} {xtpd : Int32} {tpf : Nat → Int32} {yhnf : Nat → Int32} {yhtn : Int32} {yhtf : Nat → Int32} {yhjn : Int32} {yhjf : Nat → Int32} {yhmn : Int32} {yhmf : Nat → Int32} {yhbn : Int32} {yhbf : Nat → Int32} {yhsn : Int32} {yhsf : Nat → Int32} {yhcn : Int32} {yhcf : Nat → Int32} {zrn : Int32} {zmn : Int32} {zwn : Int32} {zpn : Int32} {zmd : Int32} {ztr : Int32} {zrf : Nat → Int32} {zmf : Nat → Int32} {zwf : Nat → Int32} {zpf : Nat → Int32} {kac : Int32} {knx : Int32} {kim : Int32} {cf : Nat → SC} {m_taped : Int32} {d_tape : Nat → Int32} {d_r : Nat → Int32} {d_st : Nat → Int32} {d_undone : Nat → Int32} {d_kept : Nat → Int32} {m_undos : Int32} {m_images : Int32} {m_hasHouse : Int32} {xw mw : va_W} (X : Cx p s m meth c #[Value.ref b] cL_law 7 RL A g) (hX : va_X b L xs s s.heap) (hbl : b < s.heap.size) (hbA : ¬ A b) (hi : 0 ≤ u4.toInt ∧ u4.toInt + 6 ≤ (L : Int)) (hL : L ≤ 3072) (h1 : n1 ≤ 601023) (h2 : n2 ≤ 7293028) (hlt : l.stackTraces = false) (hZ : kZ A s s.heap) (htsE : ∀ w ∈ wsE, w.before #[Value.ref b] s = true) (hx : XW g h0 xtpd tpf yhnf yhtn yhtf yhjn yhjf yhmn yhmf yhbn yhbf yhsn yhsf yhcn yhcf zrn zmn zwn zpn zmd ztr zrf zmf zwf zpf kac knx kim cf xw) (hm : MW g mo m_taped d_tape d_r d_st d_undone d_kept m_undos m_images m_hasHouse mw) (hR : LR xtpd tpf yhnf yhtn yhtf yhjn yhjf yhmn yhmf yhbn yhbf yhsn yhsf yhcn yhcf zrn zmn zwn zpn zmd ztr zrf zmf zwf zpf kac knx kim cf m_taped d_tape d_r d_st d_undone d_kept m_undos m_images m_hasHouse) (kk : ∀ (xtpd_2 : Int32) (tpf_2 : Nat → Int32) (yhnf_2 : Nat → Int32) (yhtn_2 : Int32) (yhtf_2 : Nat → Int32) (yhjn_2 : Int32) (yhjf_2 : Nat → Int32) (yhmn_2 : Int32) (yhmf_2 : Nat → Int32) (yhbn_2 : Int32) (yhbf_2 : Nat → Int32) (yhsn_2 : Int32) (yhsf_2 : Nat → Int32) (yhcn_2 : Int32) (yhcf_2 : Nat → Int32) (zrn_2 : Int32) (zmn_2 : Int32) (zwn_2 : Int32) (zpn_2 : Int32) (zmd_2 : Int32) (ztr_2 : Int32) (zrf_2 : Nat → Int32) (zmf_2 : Nat → Int32) (zwf_2 : Nat → Int32) (zpf_2 : Nat → Int32) (kac_2 : Int32) (knx_2 : Int32) (kim_2 : Int32) (cf_2 : Nat → SC) (m_taped_2 : Int32) (d_tape_2 : Nat → Int32) (d_r_2 : Nat → Int32) (d_st_2 : Nat → Int32) (d_undone_2 : Nat → Int32) (d_kept_2 : Nat → Int32) (m_undos_2 : Int32) (m_images_2 : Int32) (m_hasHouse_2 : Int32) (xw2 mw2 : va_W), XW g h0 xtpd_2 tpf_2 yhnf_2 yhtn_2 yhtf_2 yhjn_2 yhjf_2 yhmn_2 yhmf_2 yhbn_2 yhbf_2 yhsn_2 yhsf_2 yhcn_2 yhcf_2 zrn_2 zmn_2 zwn_2 zpn_2 zmd_2 ztr_2 zrf_2 zmf_2 zwf_2 zpf_2 kac_2 knx_2 kim_2 cf_2 xw2 → MW g mo m_taped_2 d_tape_2 d_r_2 d_st_2 d_undone_2 d_kept_2 m_undos_2 m_images_2 m_hasHouse_2 mw2 → LR xtpd_2 tpf_2 yhnf_2 yhtn_2 yhtf_2 yhjn_2 yhjf_2 yhmn_2 yhmf_2 yhbn_2 yhbf_2 yhsn_2 yhsf_2 yhcn_2 yhcf_2 zrn_2 zmn_2 zwn_2 zpn_2 zmd_2 ztr_2 zrf_2 zmf_2 zwf_2 zpf_2 kac_2 knx_2 kim_2 cf_2 m_taped_2 d_tape_2 d_r_2 d_st_2 d_undone_2 d_kept_2 m_undos_2 m_images_2 m_hasHouse_2 → Wk p l e room_1 s m #[Value.ref b] below meth c (lw_Z below #[Value.ref b] s) A g 7 n1 n2 (xw2 ++ (mw2 ++ [(cAJ g lo 1 fo)])) [(4, .int u4), (3, .ref lo), (2, .ref mo), (1, .ref h0), (0, .ref b)] 2062 []) : Wk p l e room_1 s m #[Value.ref b] below meth c (lw_Z below #[Value.ref b] s) A g 7 n1 n2 (xw ++ (mw ++ [(cAJ g lo 1 fo)])) [(4, .int u4), (3, .ref lo), (2, .ref mo), (1, .ref h0), (0, .ref b)] 1193 [] := by
  have hiv : IV u4 0 3066 := ⟨hi.1, by omega⟩
  refine k_aload_n X dL_law_k57.1.1.1.1 3 rfl ?_
  refine k_aload_n X dL_law_k57.1.1.1.2 4 rfl ?_
  refine k_iload X dL_law_k57.1.1.2.1 0 rfl ?_
  refine k_iconst (v := 1) X dL_law_k57.1.1.2.2 ic_1 ?_
  refine k_iadd X dL_law_k57.1.2.1.1 ?_
  refine k_nm (fun z_1 ez_1 => ?_)
  have i_2 : z_1.toInt = u4.toInt + 1 := in_add ez_1 hiv iq_1_1_1 (zle_e rfl) (zle_e rfl)
  have iv_3 : IV z_1 1 3067 := by have := hiv; have := iq_1_1_1; rw [IV, i_2]; omega
  refine k_sld X hX hbl hbA dL_law_k57.1.2.1.2 (by rw [vp_in_iff]; have := iv_3; omega) ?_
  refine k_nm (fun a_4 ea_4 => ?_)
  refine k_aload_n X dL_law_k57.1.2.2.1 4 rfl ?_
  refine k_iload X dL_law_k57.1.2.2.2 0 rfl ?_
  refine k_iconst (v := 2) X dL_law_k57.2.1.1.1 ic_2 ?_
  refine k_iadd X dL_law_k57.2.1.1.2 ?_
  refine k_nm (fun z_5 ez_5 => ?_)
  have i_6 : z_5.toInt = u4.toInt + 2 := in_add ez_5 hiv iq_2_2_2 (zle_e rfl) (zle_e rfl)
  have iv_7 : IV z_5 2 3068 := by have := hiv; have := iq_2_2_2; rw [IV, i_6]; omega
  refine k_sld X hX hbl hbA dL_law_k57.2.1.2.1 (by rw [vp_in_iff]; have := iv_7; omega) ?_
  refine k_nm (fun a_8 ea_8 => ?_)
  refine k_aload_n X dL_law_k57.2.1.2.2 4 rfl ?_
  refine k_iload X dL_law_k57.2.2.1.1 0 rfl ?_
  refine k_iconst (v := 3) X dL_law_k57.2.2.1.2 ic_3 ?_
  refine k_iadd X dL_law_k57.2.2.2.1 ?_
  refine k_nm (fun z_9 ez_9 => ?_)
  have i_10 : z_9.toInt = u4.toInt + 3 := in_add ez_9 hiv iq_3_3_3 (zle_e rfl) (zle_e rfl)
  have iv_11 : IV z_9 3 3069 := by have := hiv; have := iq_3_3_3; rw [IV, i_10]; omega
  refine k_sld X hX hbl hbA dL_law_k57.2.2.2.2 (by rw [vp_in_iff]; have := iv_11; omega) ?_
  refine k_nm (fun a_12 ea_12 => ?_)
  refine k_if_eq 1219 X dL_law_k58.1.1.1.1 (jp_e rfl) (fun h_13 => ?_) (fun h_13 => ?_)
  · skip
    have iv_14 : IV a_12 0 0 := iv_meet (iv_any a_12) (iv_e h_13 iq_0_0_0) (zle_o rfl) (zle_o rfl)
    refine k_iconst (v := 0) X dL_law_k58.1.1.2.2 ic_0 ?_
    refine lx_truly (st := []) a_4 a_8 0 X hx dL_law_k58.1.2.1.1 mw1113 (Nat.le_of_ble_eq_true rfl) (Nat.le_of_ble_eq_true rfl) (Nat.le_of_ble_eq_true rfl) (Nat.le_trans h1 (Nat.le_of_ble_eq_true rfl)) (Nat.le_trans h2 (Nat.le_of_ble_eq_true rfl)) (fun r_15 xw_16 hx_17 => ?_)
    refine k_pop2 X dL_law_k58.1.2.1.2 rfl ?_
    refine k_aload_n X dL_law_k58.1.2.2.1 2 rfl ?_
    refine k_aload_n X dL_law_k58.1.2.2.2 4 rfl ?_
    refine k_iload X dL_law_k58.2.1.1.1 0 rfl ?_
    refine k_iconst (v := 1) X dL_law_k58.2.1.1.2 ic_1 ?_
    refine k_iadd X dL_law_k58.2.1.2.1 ?_
    refine k_to z_1 ez_1.symm ?_
    refine k_sld X hX hbl hbA dL_law_k58.2.1.2.2 (by rw [vp_in_iff]; have := iv_3; omega) ?_
    refine k_to a_4 ea_4.symm ?_
    refine k_aload_n X dL_law_k58.2.2.1.1 4 rfl ?_
    refine k_iload X dL_law_k58.2.2.1.2 0 rfl ?_
    refine k_iconst (v := 2) X dL_law_k58.2.2.2.1 ic_2 ?_
    refine k_iadd X dL_law_k58.2.2.2.2 ?_
    refine k_to z_5 ez_5.symm ?_
    refine k_sld X hX hbl hbA dL_law_k59.1.1.1 (by rw [vp_in_iff]; have := iv_7; omega) ?_
    refine k_to a_8 ea_8.symm ?_
    refine k_aload_n X dL_law_k59.1.1.2.1 4 rfl ?_
    refine k_iload X dL_law_k59.1.1.2.2 0 rfl ?_
    refine k_iconst (v := 3) X dL_law_k59.1.2.1 ic_3 ?_
    refine k_iadd X dL_law_k59.1.2.2.1 ?_
    refine k_to z_9 ez_9.symm ?_
    refine k_sld X hX hbl hbA dL_law_k59.1.2.2.2 (by rw [vp_in_iff]; have := iv_11; omega) ?_
    refine k_to a_12 ea_12.symm ?_
    refine k_if_eq 1250 X dL_law_k59.2.1.1 (jp_e rfl) (fun h_18 => ?_) (fun h_18 => absurd h_13 h_18)
    refine k_iconst (v := 0) X dL_law_k59.2.2.1.1 ic_0 ?_
    refine lm_truly (st := []) a_4 a_8 0 X hm dL_law_k59.2.2.1.2 mw1151 (Nat.le_of_ble_eq_true rfl) (Nat.le_of_ble_eq_true rfl) (Nat.le_of_ble_eq_true rfl) (Nat.le_trans h1 (Nat.le_of_ble_eq_true rfl)) (Nat.le_trans h2 (Nat.le_of_ble_eq_true rfl)) (fun r_19 mw_20 hm_21 => ?_)
    refine k_pop2 X dL_law_k59.2.2.2.1 rfl ?_
    refine k_goto 2062 X dL_law_k59.2.2.2.2 (jp_e rfl) ?_
    exact kk _ _ _ _ _ _ _ _ _ _ _ _ _ _ _ _ _ _ _ _ _ _ _ _ _ _ _ _ _ _ _ _ _ _ _ _ _ _ _ _ hx_17 hm_21 hR
  · skip
    refine k_iconst (v := 1) X dL_law_k58.1.1.1.2 ic_1 ?_
    refine k_goto 1220 X dL_law_k58.1.1.2.1 (jp_e rfl) ?_
    refine lx_truly (st := []) a_4 a_8 1 X hx dL_law_k58.1.2.1.1 mw1113 (Nat.le_of_ble_eq_true rfl) (Nat.le_of_ble_eq_true rfl) (Nat.le_of_ble_eq_true rfl) (Nat.le_trans h1 (Nat.le_of_ble_eq_true rfl)) (Nat.le_trans h2 (Nat.le_of_ble_eq_true rfl)) (fun r_22 xw_23 hx_24 => ?_)
    refine k_pop2 X dL_law_k58.1.2.1.2 rfl ?_
    refine k_aload_n X dL_law_k58.1.2.2.1 2 rfl ?_
    refine k_aload_n X dL_law_k58.1.2.2.2 4 rfl ?_
    refine k_iload X dL_law_k58.2.1.1.1 0 rfl ?_
    refine k_iconst (v := 1) X dL_law_k58.2.1.1.2 ic_1 ?_
    refine k_iadd X dL_law_k58.2.1.2.1 ?_
    refine k_to z_1 ez_1.symm ?_
    refine k_sld X hX hbl hbA dL_law_k58.2.1.2.2 (by rw [vp_in_iff]; have := iv_3; omega) ?_
    refine k_to a_4 ea_4.symm ?_
    refine k_aload_n X dL_law_k58.2.2.1.1 4 rfl ?_
    refine k_iload X dL_law_k58.2.2.1.2 0 rfl ?_
    refine k_iconst (v := 2) X dL_law_k58.2.2.2.1 ic_2 ?_
    refine k_iadd X dL_law_k58.2.2.2.2 ?_
    refine k_to z_5 ez_5.symm ?_
    refine k_sld X hX hbl hbA dL_law_k59.1.1.1 (by rw [vp_in_iff]; have := iv_7; omega) ?_
    refine k_to a_8 ea_8.symm ?_
    refine k_aload_n X dL_law_k59.1.1.2.1 4 rfl ?_
    refine k_iload X dL_law_k59.1.1.2.2 0 rfl ?_
    refine k_iconst (v := 3) X dL_law_k59.1.2.1 ic_3 ?_
    refine k_iadd X dL_law_k59.1.2.2.1 ?_
    refine k_to z_9 ez_9.symm ?_
    refine k_sld X hX hbl hbA dL_law_k59.1.2.2.2 (by rw [vp_in_iff]; have := iv_11; omega) ?_
    refine k_to a_12 ea_12.symm ?_
    refine k_if_eq 1250 X dL_law_k59.2.1.1 (jp_e rfl) (fun h_25 => absurd h_25 h_13) (fun h_25 => ?_)
    refine k_iconst (v := 1) X dL_law_k59.2.1.2.1 ic_1 ?_
    refine k_goto 1251 X dL_law_k59.2.1.2.2 (jp_e rfl) ?_
    refine lm_truly (st := []) a_4 a_8 1 X hm dL_law_k59.2.2.1.2 mw1151 (Nat.le_of_ble_eq_true rfl) (Nat.le_of_ble_eq_true rfl) (Nat.le_of_ble_eq_true rfl) (Nat.le_trans h1 (Nat.le_of_ble_eq_true rfl)) (Nat.le_trans h2 (Nat.le_of_ble_eq_true rfl)) (fun r_26 mw_27 hm_28 => ?_)
    refine k_pop2 X dL_law_k59.2.2.2.1 rfl ?_
    refine k_goto 2062 X dL_law_k59.2.2.2.2 (jp_e rfl) ?_
    exact kk _ _ _ _ _ _ _ _ _ _ _ _ _ _ _ _ _ _ _ _ _ _ _ _ _ _ _ _ _ _ _ _ _ _ _ _ _ _ _ _ hx_24 hm_28 hR

theorem dL_law_k60 : ((((dD cL_law 1258 (.aload_n 1) 1 ∧ dD cL_law 1259 (.aload_n 0) 1) ∧ (dD cL_law 1260 (.iload 4) 2 ∧ dD cL_law 1262 (.iconst 1) 1)) ∧ ((dD cL_law 1263 .iadd 1 ∧ dD cL_law 1264 .iaload 1) ∧ (dD cL_law 1265 (.invokevirtual 143) 3 ∧ dD cL_law 1268 .pop 1))) ∧ (((dD cL_law 1269 (.aload_n 2) 1 ∧ dD cL_law 1270 (.aload_n 0) 1) ∧ (dD cL_law 1271 (.iload 4) 2 ∧ dD cL_law 1273 (.iconst 1) 1)) ∧ ((dD cL_law 1274 .iadd 1 ∧ dD cL_law 1275 .iaload 1) ∧ (dD cL_law 1276 (.invokevirtual 146) 3 ∧ dD cL_law 1279 .pop 1)))) := dkA16 (by decide +kernel)
theorem dL_law_k61 : dD cL_law 1280 (.goto 782) 3 := dkA1 (by decide +kernel)
set_option maxHeartbeats 4000000 in
set_option maxRecDepth 100000 in
theorem law_c30 {p : Program} {l : Launch} {e : Env} {s : State} {m : MethodId} {below : List Frame} {meth : Method} {c : Code} {A : Nat → Prop} {g : Gx} {b L : Nat} {xs : Nat → Int32} {h0 mo lo n1 n2 : Nat} {fo : Nat → Int64} {u4 : Int32} {xtpd : Int32} {tpf : Nat → Int32} {yhnf : Nat → Int32} {yhtn : Int32} {yhtf : Nat → Int32} {yhjn : Int32} {yhjf : Nat → Int32} {yhmn : Int32} {yhmf : Nat → Int32} {yhbn : Int32} {yhbf : Nat → Int32} {yhsn : Int32} {yhsf : Nat → Int32} {yhcn : Int32} {yhcf : Nat → Int32} {zrn : Int32} {zmn : Int32} {zwn : Int32} {zpn : Int32} {zmd : Int32} {ztr : Int32} {zrf : Nat → Int32} {zmf : Nat → Int32} {zwf : Nat → Int32} {zpf : Nat → Int32} {kac : Int32} {knx : Int32} {kim : Int32} {cf : Nat → SC} {m_taped : Int32} {d_tape : Nat → Int32} {d_r : Nat → Int32} {d_st : Nat → Int32} {d_undone : Nat → Int32} {d_kept : Nat → Int32} {m_undos : Int32} {m_images : Int32} {m_hasHouse : Int32} {xw mw : va_W} (X : Cx p s m meth c #[Value.ref b] cL_law 7 RL A g) (hX : va_X b L xs s s.heap) (hbl : b < s.heap.size) (hbA : ¬ A b) (hi : 0 ≤ u4.toInt ∧ u4.toInt + 6 ≤ (L : Int)) (hL : L ≤ 3072) (h1 : n1 ≤ 601023) (h2 : n2 ≤ 7293028) (hlt : l.stackTraces = false) (hZ : kZ A s s.heap) (htsE : ∀ w ∈ wsE, w.before #[Value.ref b] s = true) (hx : XW g h0 xtpd tpf yhnf yhtn yhtf yhjn yhjf yhmn yhmf yhbn yhbf yhsn yhsf yhcn yhcf zrn zmn zwn zpn zmd ztr zrf zmf zwf zpf kac knx kim cf xw) (hm : MW g mo m_taped d_tape d_r d_st d_undone d_kept m_undos m_images m_hasHouse mw) (hR : LR xtpd tpf yhnf yhtn yhtf yhjn yhjf yhmn yhmf yhbn yhbf yhsn yhsf yhcn yhcf zrn zmn zwn zpn zmd ztr zrf zmf zwf zpf kac knx kim cf m_taped d_tape d_r d_st d_undone d_kept m_undos m_images m_hasHouse) (kk : ∀ (xtpd_2 : Int32) (tpf_2 : Nat → Int32) (yhnf_2 : Nat → Int32) (yhtn_2 : Int32) (yhtf_2 : Nat → Int32) (yhjn_2 : Int32) (yhjf_2 : Nat → Int32) (yhmn_2 : Int32) (yhmf_2 : Nat → Int32) (yhbn_2 : Int32) (yhbf_2 : Nat → Int32) (yhsn_2 : Int32) (yhsf_2 : Nat → Int32) (yhcn_2 : Int32) (yhcf_2 : Nat → Int32) (zrn_2 : Int32) (zmn_2 : Int32) (zwn_2 : Int32) (zpn_2 : Int32) (zmd_2 : Int32) (ztr_2 : Int32) (zrf_2 : Nat → Int32) (zmf_2 : Nat → Int32) (zwf_2 : Nat → Int32) (zpf_2 : Nat → Int32) (kac_2 : Int32) (knx_2 : Int32) (kim_2 : Int32) (cf_2 : Nat → SC) (m_taped_2 : Int32) (d_tape_2 : Nat → Int32) (d_r_2 : Nat → Int32) (d_st_2 : Nat → Int32) (d_undone_2 : Nat → Int32) (d_kept_2 : Nat → Int32) (m_undos_2 : Int32) (m_images_2 : Int32) (m_hasHouse_2 : Int32) (xw2 mw2 : va_W), XW g h0 xtpd_2 tpf_2 yhnf_2 yhtn_2 yhtf_2 yhjn_2 yhjf_2 yhmn_2 yhmf_2 yhbn_2 yhbf_2 yhsn_2 yhsf_2 yhcn_2 yhcf_2 zrn_2 zmn_2 zwn_2 zpn_2 zmd_2 ztr_2 zrf_2 zmf_2 zwf_2 zpf_2 kac_2 knx_2 kim_2 cf_2 xw2 → MW g mo m_taped_2 d_tape_2 d_r_2 d_st_2 d_undone_2 d_kept_2 m_undos_2 m_images_2 m_hasHouse_2 mw2 → LR xtpd_2 tpf_2 yhnf_2 yhtn_2 yhtf_2 yhjn_2 yhjf_2 yhmn_2 yhmf_2 yhbn_2 yhbf_2 yhsn_2 yhsf_2 yhcn_2 yhcf_2 zrn_2 zmn_2 zwn_2 zpn_2 zmd_2 ztr_2 zrf_2 zmf_2 zwf_2 zpf_2 kac_2 knx_2 kim_2 cf_2 m_taped_2 d_tape_2 d_r_2 d_st_2 d_undone_2 d_kept_2 m_undos_2 m_images_2 m_hasHouse_2 → Wk p l e room_1 s m #[Value.ref b] below meth c (lw_Z below #[Value.ref b] s) A g 7 n1 n2 (xw2 ++ (mw2 ++ [(cAJ g lo 1 fo)])) [(4, .int u4), (3, .ref lo), (2, .ref mo), (1, .ref h0), (0, .ref b)] 2062 []) : Wk p l e room_1 s m #[Value.ref b] below meth c (lw_Z below #[Value.ref b] s) A g 7 n1 n2 (xw ++ (mw ++ [(cAJ g lo 1 fo)])) [(4, .int u4), (3, .ref lo), (2, .ref mo), (1, .ref h0), (0, .ref b)] 1258 [] := by
  have hiv : IV u4 0 3066 := ⟨hi.1, by omega⟩
  refine k_aload_n X dL_law_k60.1.1.1.1 3 rfl ?_
  refine k_aload_n X dL_law_k60.1.1.1.2 4 rfl ?_
  refine k_iload X dL_law_k60.1.1.2.1 0 rfl ?_
  refine k_iconst (v := 1) X dL_law_k60.1.1.2.2 ic_1 ?_
  refine k_iadd X dL_law_k60.1.2.1.1 ?_
  refine k_nm (fun z_1 ez_1 => ?_)
  have i_2 : z_1.toInt = u4.toInt + 1 := in_add ez_1 hiv iq_1_1_1 (zle_e rfl) (zle_e rfl)
  have iv_3 : IV z_1 1 3067 := by have := hiv; have := iq_1_1_1; rw [IV, i_2]; omega
  refine k_sld X hX hbl hbA dL_law_k60.1.2.1.2 (by rw [vp_in_iff]; have := iv_3; omega) ?_
  refine k_nm (fun a_4 ea_4 => ?_)
  refine lx_likeliest (st := []) a_4 X hx dL_law_k60.1.2.2.1 mw1170 (Nat.le_of_ble_eq_true rfl) (Nat.le_of_ble_eq_true rfl) (Nat.le_of_ble_eq_true rfl) (Nat.le_trans h1 (Nat.le_of_ble_eq_true rfl)) (Nat.le_trans h2 (Nat.le_of_ble_eq_true rfl)) (fun r_5 xw_6 hx_7 => ?_)
  refine k_pop X dL_law_k60.1.2.2.2 rfl ?_
  refine k_aload_n X dL_law_k60.2.1.1.1 2 rfl ?_
  refine k_aload_n X dL_law_k60.2.1.1.2 4 rfl ?_
  refine k_iload X dL_law_k60.2.1.2.1 0 rfl ?_
  refine k_iconst (v := 1) X dL_law_k60.2.1.2.2 ic_1 ?_
  refine k_iadd X dL_law_k60.2.2.1.1 ?_
  refine k_to z_1 ez_1.symm ?_
  refine k_sld X hX hbl hbA dL_law_k60.2.2.1.2 (by rw [vp_in_iff]; have := iv_3; omega) ?_
  refine k_to a_4 ea_4.symm ?_
  refine lm_likeliest (st := []) a_4 X hm dL_law_k60.2.2.2.1 mw1178 (Nat.le_of_ble_eq_true rfl) (Nat.le_of_ble_eq_true rfl) (Nat.le_of_ble_eq_true rfl) (Nat.le_trans h1 (Nat.le_of_ble_eq_true rfl)) (Nat.le_trans h2 (Nat.le_of_ble_eq_true rfl)) (fun r_8 mw_9 hm_10 => ?_)
  refine k_pop X dL_law_k60.2.2.2.2 rfl ?_
  refine k_goto 2062 X dL_law_k61 (jp_e rfl) ?_
  exact kk _ _ _ _ _ _ _ _ _ _ _ _ _ _ _ _ _ _ _ _ _ _ _ _ _ _ _ _ _ _ _ _ _ _ _ _ _ _ _ _ hx_7 hm_10 hR

theorem dL_law_k62 : ((((dD cL_law 1283 (.aload_n 1) 1 ∧ dD cL_law 1284 (.aload_n 0) 1) ∧ (dD cL_law 1285 (.iload 4) 2 ∧ dD cL_law 1287 (.iconst 1) 1)) ∧ ((dD cL_law 1288 .iadd 1 ∧ dD cL_law 1289 .iaload 1) ∧ (dD cL_law 1290 (.invokevirtual 147) 3 ∧ dD cL_law 1293 .pop 1))) ∧ (((dD cL_law 1294 (.aload_n 2) 1 ∧ dD cL_law 1295 (.aload_n 0) 1) ∧ (dD cL_law 1296 (.iload 4) 2 ∧ dD cL_law 1298 (.iconst 1) 1)) ∧ ((dD cL_law 1299 .iadd 1 ∧ dD cL_law 1300 .iaload 1) ∧ (dD cL_law 1301 (.invokevirtual 150) 3 ∧ dD cL_law 1304 .pop 1)))) := dkA16 (by decide +kernel)
theorem dL_law_k63 : dD cL_law 1305 (.goto 757) 3 := dkA1 (by decide +kernel)
set_option maxHeartbeats 4000000 in
set_option maxRecDepth 100000 in
theorem law_c31 {p : Program} {l : Launch} {e : Env} {s : State} {m : MethodId} {below : List Frame} {meth : Method} {c : Code} {A : Nat → Prop} {g : Gx} {b L : Nat} {xs : Nat → Int32} {h0 mo lo n1 n2 : Nat} {fo : Nat → Int64} {u4 : Int32} {xtpd : Int32} {tpf : Nat → Int32} {yhnf : Nat → Int32} {yhtn : Int32} {yhtf : Nat → Int32} {yhjn : Int32} {yhjf : Nat → Int32} {yhmn : Int32} {yhmf : Nat → Int32} {yhbn : Int32} {yhbf : Nat → Int32} {yhsn : Int32} {yhsf : Nat → Int32} {yhcn : Int32} {yhcf : Nat → Int32} {zrn : Int32} {zmn : Int32} {zwn : Int32} {zpn : Int32} {zmd : Int32} {ztr : Int32} {zrf : Nat → Int32} {zmf : Nat → Int32} {zwf : Nat → Int32} {zpf : Nat → Int32} {kac : Int32} {knx : Int32} {kim : Int32} {cf : Nat → SC} {m_taped : Int32} {d_tape : Nat → Int32} {d_r : Nat → Int32} {d_st : Nat → Int32} {d_undone : Nat → Int32} {d_kept : Nat → Int32} {m_undos : Int32} {m_images : Int32} {m_hasHouse : Int32} {xw mw : va_W} (X : Cx p s m meth c #[Value.ref b] cL_law 7 RL A g) (hX : va_X b L xs s s.heap) (hbl : b < s.heap.size) (hbA : ¬ A b) (hi : 0 ≤ u4.toInt ∧ u4.toInt + 6 ≤ (L : Int)) (hL : L ≤ 3072) (h1 : n1 ≤ 601023) (h2 : n2 ≤ 7293028) (hlt : l.stackTraces = false) (hZ : kZ A s s.heap) (htsE : ∀ w ∈ wsE, w.before #[Value.ref b] s = true) (hx : XW g h0 xtpd tpf yhnf yhtn yhtf yhjn yhjf yhmn yhmf yhbn yhbf yhsn yhsf yhcn yhcf zrn zmn zwn zpn zmd ztr zrf zmf zwf zpf kac knx kim cf xw) (hm : MW g mo m_taped d_tape d_r d_st d_undone d_kept m_undos m_images m_hasHouse mw) (hR : LR xtpd tpf yhnf yhtn yhtf yhjn yhjf yhmn yhmf yhbn yhbf yhsn yhsf yhcn yhcf zrn zmn zwn zpn zmd ztr zrf zmf zwf zpf kac knx kim cf m_taped d_tape d_r d_st d_undone d_kept m_undos m_images m_hasHouse) (kk : ∀ (xtpd_2 : Int32) (tpf_2 : Nat → Int32) (yhnf_2 : Nat → Int32) (yhtn_2 : Int32) (yhtf_2 : Nat → Int32) (yhjn_2 : Int32) (yhjf_2 : Nat → Int32) (yhmn_2 : Int32) (yhmf_2 : Nat → Int32) (yhbn_2 : Int32) (yhbf_2 : Nat → Int32) (yhsn_2 : Int32) (yhsf_2 : Nat → Int32) (yhcn_2 : Int32) (yhcf_2 : Nat → Int32) (zrn_2 : Int32) (zmn_2 : Int32) (zwn_2 : Int32) (zpn_2 : Int32) (zmd_2 : Int32) (ztr_2 : Int32) (zrf_2 : Nat → Int32) (zmf_2 : Nat → Int32) (zwf_2 : Nat → Int32) (zpf_2 : Nat → Int32) (kac_2 : Int32) (knx_2 : Int32) (kim_2 : Int32) (cf_2 : Nat → SC) (m_taped_2 : Int32) (d_tape_2 : Nat → Int32) (d_r_2 : Nat → Int32) (d_st_2 : Nat → Int32) (d_undone_2 : Nat → Int32) (d_kept_2 : Nat → Int32) (m_undos_2 : Int32) (m_images_2 : Int32) (m_hasHouse_2 : Int32) (xw2 mw2 : va_W), XW g h0 xtpd_2 tpf_2 yhnf_2 yhtn_2 yhtf_2 yhjn_2 yhjf_2 yhmn_2 yhmf_2 yhbn_2 yhbf_2 yhsn_2 yhsf_2 yhcn_2 yhcf_2 zrn_2 zmn_2 zwn_2 zpn_2 zmd_2 ztr_2 zrf_2 zmf_2 zwf_2 zpf_2 kac_2 knx_2 kim_2 cf_2 xw2 → MW g mo m_taped_2 d_tape_2 d_r_2 d_st_2 d_undone_2 d_kept_2 m_undos_2 m_images_2 m_hasHouse_2 mw2 → LR xtpd_2 tpf_2 yhnf_2 yhtn_2 yhtf_2 yhjn_2 yhjf_2 yhmn_2 yhmf_2 yhbn_2 yhbf_2 yhsn_2 yhsf_2 yhcn_2 yhcf_2 zrn_2 zmn_2 zwn_2 zpn_2 zmd_2 ztr_2 zrf_2 zmf_2 zwf_2 zpf_2 kac_2 knx_2 kim_2 cf_2 m_taped_2 d_tape_2 d_r_2 d_st_2 d_undone_2 d_kept_2 m_undos_2 m_images_2 m_hasHouse_2 → Wk p l e room_1 s m #[Value.ref b] below meth c (lw_Z below #[Value.ref b] s) A g 7 n1 n2 (xw2 ++ (mw2 ++ [(cAJ g lo 1 fo)])) [(4, .int u4), (3, .ref lo), (2, .ref mo), (1, .ref h0), (0, .ref b)] 2062 []) : Wk p l e room_1 s m #[Value.ref b] below meth c (lw_Z below #[Value.ref b] s) A g 7 n1 n2 (xw ++ (mw ++ [(cAJ g lo 1 fo)])) [(4, .int u4), (3, .ref lo), (2, .ref mo), (1, .ref h0), (0, .ref b)] 1283 [] := by
  have hiv : IV u4 0 3066 := ⟨hi.1, by omega⟩
  refine k_aload_n X dL_law_k62.1.1.1.1 3 rfl ?_
  refine k_aload_n X dL_law_k62.1.1.1.2 4 rfl ?_
  refine k_iload X dL_law_k62.1.1.2.1 0 rfl ?_
  refine k_iconst (v := 1) X dL_law_k62.1.1.2.2 ic_1 ?_
  refine k_iadd X dL_law_k62.1.2.1.1 ?_
  refine k_nm (fun z_1 ez_1 => ?_)
  have i_2 : z_1.toInt = u4.toInt + 1 := in_add ez_1 hiv iq_1_1_1 (zle_e rfl) (zle_e rfl)
  have iv_3 : IV z_1 1 3067 := by have := hiv; have := iq_1_1_1; rw [IV, i_2]; omega
  refine k_sld X hX hbl hbA dL_law_k62.1.2.1.2 (by rw [vp_in_iff]; have := iv_3; omega) ?_
  refine k_nm (fun a_4 ea_4 => ?_)
  refine lx_who (st := []) a_4 X hx dL_law_k62.1.2.2.1 mw1182 (Nat.le_of_ble_eq_true rfl) (Nat.le_of_ble_eq_true rfl) (Nat.le_of_ble_eq_true rfl) (Nat.le_trans h1 (Nat.le_of_ble_eq_true rfl)) (Nat.le_trans h2 (Nat.le_of_ble_eq_true rfl)) (fun r_5 xw_6 hx_7 => ?_)
  refine k_pop X dL_law_k62.1.2.2.2 rfl ?_
  refine k_aload_n X dL_law_k62.2.1.1.1 2 rfl ?_
  refine k_aload_n X dL_law_k62.2.1.1.2 4 rfl ?_
  refine k_iload X dL_law_k62.2.1.2.1 0 rfl ?_
  refine k_iconst (v := 1) X dL_law_k62.2.1.2.2 ic_1 ?_
  refine k_iadd X dL_law_k62.2.2.1.1 ?_
  refine k_to z_1 ez_1.symm ?_
  refine k_sld X hX hbl hbA dL_law_k62.2.2.1.2 (by rw [vp_in_iff]; have := iv_3; omega) ?_
  refine k_to a_4 ea_4.symm ?_
  refine lm_who (st := []) a_4 X hm dL_law_k62.2.2.2.1 mw1196 (Nat.le_of_ble_eq_true rfl) (Nat.le_of_ble_eq_true rfl) (Nat.le_of_ble_eq_true rfl) (Nat.le_trans h1 (Nat.le_of_ble_eq_true rfl)) (Nat.le_trans h2 (Nat.le_of_ble_eq_true rfl)) (fun r_8 mw_9 hm_10 => ?_)
  refine k_pop X dL_law_k62.2.2.2.2 rfl ?_
  refine k_goto 2062 X dL_law_k63 (jp_e rfl) ?_
  exact kk _ _ _ _ _ _ _ _ _ _ _ _ _ _ _ _ _ _ _ _ _ _ _ _ _ _ _ _ _ _ _ _ _ _ _ _ _ _ _ _ hx_7 hm_10 hR

theorem dL_law_k64 : ((((dD cL_law 1308 (.aload_n 1) 1 ∧ dD cL_law 1309 (.aload_n 0) 1) ∧ (dD cL_law 1310 (.iload 4) 2 ∧ dD cL_law 1312 (.iconst 1) 1)) ∧ ((dD cL_law 1313 .iadd 1 ∧ dD cL_law 1314 .iaload 1) ∧ (dD cL_law 1315 (.invokevirtual 151) 3 ∧ dD cL_law 1318 .pop 1))) ∧ (((dD cL_law 1319 (.aload_n 2) 1 ∧ dD cL_law 1320 (.aload_n 0) 1) ∧ (dD cL_law 1321 (.iload 4) 2 ∧ dD cL_law 1323 (.iconst 1) 1)) ∧ ((dD cL_law 1324 .iadd 1 ∧ dD cL_law 1325 .iaload 1) ∧ (dD cL_law 1326 (.invokevirtual 154) 3 ∧ dD cL_law 1329 .pop 1)))) := dkA16 (by decide +kernel)
theorem dL_law_k65 : dD cL_law 1330 (.goto 732) 3 := dkA1 (by decide +kernel)
set_option maxHeartbeats 4000000 in
set_option maxRecDepth 100000 in
theorem law_c32 {p : Program} {l : Launch} {e : Env} {s : State} {m : MethodId} {below : List Frame} {meth : Method} {c : Code} {A : Nat → Prop} {g : Gx} {b L : Nat} {xs : Nat → Int32} {h0 mo lo n1 n2 : Nat} {fo : Nat → Int64} {u4 : Int32} {xtpd : Int32} {tpf : Nat → Int32} {yhnf : Nat → Int32} {yhtn : Int32} {yhtf : Nat → Int32} {yhjn : Int32} {yhjf : Nat → Int32} {yhmn : Int32} {yhmf : Nat → Int32} {yhbn : Int32} {yhbf : Nat → Int32} {yhsn : Int32} {yhsf : Nat → Int32} {yhcn : Int32} {yhcf : Nat → Int32} {zrn : Int32} {zmn : Int32} {zwn : Int32} {zpn : Int32} {zmd : Int32} {ztr : Int32} {zrf : Nat → Int32} {zmf : Nat → Int32} {zwf : Nat → Int32} {zpf : Nat → Int32} {kac : Int32} {knx : Int32} {kim : Int32} {cf : Nat → SC} {m_taped : Int32} {d_tape : Nat → Int32} {d_r : Nat → Int32} {d_st : Nat → Int32} {d_undone : Nat → Int32} {d_kept : Nat → Int32} {m_undos : Int32} {m_images : Int32} {m_hasHouse : Int32} {xw mw : va_W} (X : Cx p s m meth c #[Value.ref b] cL_law 7 RL A g) (hX : va_X b L xs s s.heap) (hbl : b < s.heap.size) (hbA : ¬ A b) (hi : 0 ≤ u4.toInt ∧ u4.toInt + 6 ≤ (L : Int)) (hL : L ≤ 3072) (h1 : n1 ≤ 601023) (h2 : n2 ≤ 7293028) (hlt : l.stackTraces = false) (hZ : kZ A s s.heap) (htsE : ∀ w ∈ wsE, w.before #[Value.ref b] s = true) (hx : XW g h0 xtpd tpf yhnf yhtn yhtf yhjn yhjf yhmn yhmf yhbn yhbf yhsn yhsf yhcn yhcf zrn zmn zwn zpn zmd ztr zrf zmf zwf zpf kac knx kim cf xw) (hm : MW g mo m_taped d_tape d_r d_st d_undone d_kept m_undos m_images m_hasHouse mw) (hR : LR xtpd tpf yhnf yhtn yhtf yhjn yhjf yhmn yhmf yhbn yhbf yhsn yhsf yhcn yhcf zrn zmn zwn zpn zmd ztr zrf zmf zwf zpf kac knx kim cf m_taped d_tape d_r d_st d_undone d_kept m_undos m_images m_hasHouse) (kk : ∀ (xtpd_2 : Int32) (tpf_2 : Nat → Int32) (yhnf_2 : Nat → Int32) (yhtn_2 : Int32) (yhtf_2 : Nat → Int32) (yhjn_2 : Int32) (yhjf_2 : Nat → Int32) (yhmn_2 : Int32) (yhmf_2 : Nat → Int32) (yhbn_2 : Int32) (yhbf_2 : Nat → Int32) (yhsn_2 : Int32) (yhsf_2 : Nat → Int32) (yhcn_2 : Int32) (yhcf_2 : Nat → Int32) (zrn_2 : Int32) (zmn_2 : Int32) (zwn_2 : Int32) (zpn_2 : Int32) (zmd_2 : Int32) (ztr_2 : Int32) (zrf_2 : Nat → Int32) (zmf_2 : Nat → Int32) (zwf_2 : Nat → Int32) (zpf_2 : Nat → Int32) (kac_2 : Int32) (knx_2 : Int32) (kim_2 : Int32) (cf_2 : Nat → SC) (m_taped_2 : Int32) (d_tape_2 : Nat → Int32) (d_r_2 : Nat → Int32) (d_st_2 : Nat → Int32) (d_undone_2 : Nat → Int32) (d_kept_2 : Nat → Int32) (m_undos_2 : Int32) (m_images_2 : Int32) (m_hasHouse_2 : Int32) (xw2 mw2 : va_W), XW g h0 xtpd_2 tpf_2 yhnf_2 yhtn_2 yhtf_2 yhjn_2 yhjf_2 yhmn_2 yhmf_2 yhbn_2 yhbf_2 yhsn_2 yhsf_2 yhcn_2 yhcf_2 zrn_2 zmn_2 zwn_2 zpn_2 zmd_2 ztr_2 zrf_2 zmf_2 zwf_2 zpf_2 kac_2 knx_2 kim_2 cf_2 xw2 → MW g mo m_taped_2 d_tape_2 d_r_2 d_st_2 d_undone_2 d_kept_2 m_undos_2 m_images_2 m_hasHouse_2 mw2 → LR xtpd_2 tpf_2 yhnf_2 yhtn_2 yhtf_2 yhjn_2 yhjf_2 yhmn_2 yhmf_2 yhbn_2 yhbf_2 yhsn_2 yhsf_2 yhcn_2 yhcf_2 zrn_2 zmn_2 zwn_2 zpn_2 zmd_2 ztr_2 zrf_2 zmf_2 zwf_2 zpf_2 kac_2 knx_2 kim_2 cf_2 m_taped_2 d_tape_2 d_r_2 d_st_2 d_undone_2 d_kept_2 m_undos_2 m_images_2 m_hasHouse_2 → Wk p l e room_1 s m #[Value.ref b] below meth c (lw_Z below #[Value.ref b] s) A g 7 n1 n2 (xw2 ++ (mw2 ++ [(cAJ g lo 1 fo)])) [(4, .int u4), (3, .ref lo), (2, .ref mo), (1, .ref h0), (0, .ref b)] 2062 []) : Wk p l e room_1 s m #[Value.ref b] below meth c (lw_Z below #[Value.ref b] s) A g 7 n1 n2 (xw ++ (mw ++ [(cAJ g lo 1 fo)])) [(4, .int u4), (3, .ref lo), (2, .ref mo), (1, .ref h0), (0, .ref b)] 1308 [] := by
  have hiv : IV u4 0 3066 := ⟨hi.1, by omega⟩
  refine k_aload_n X dL_law_k64.1.1.1.1 3 rfl ?_
  refine k_aload_n X dL_law_k64.1.1.1.2 4 rfl ?_
  refine k_iload X dL_law_k64.1.1.2.1 0 rfl ?_
  refine k_iconst (v := 1) X dL_law_k64.1.1.2.2 ic_1 ?_
  refine k_iadd X dL_law_k64.1.2.1.1 ?_
  refine k_nm (fun z_1 ez_1 => ?_)
  have i_2 : z_1.toInt = u4.toInt + 1 := in_add ez_1 hiv iq_1_1_1 (zle_e rfl) (zle_e rfl)
  have iv_3 : IV z_1 1 3067 := by have := hiv; have := iq_1_1_1; rw [IV, i_2]; omega
  refine k_sld X hX hbl hbA dL_law_k64.1.2.1.2 (by rw [vp_in_iff]; have := iv_3; omega) ?_
  refine k_nm (fun a_4 ea_4 => ?_)
  refine lx_far (st := []) a_4 X hx dL_law_k64.1.2.2.1 mw1210 (Nat.le_of_ble_eq_true rfl) (Nat.le_of_ble_eq_true rfl) (Nat.le_of_ble_eq_true rfl) (Nat.le_trans h1 (Nat.le_of_ble_eq_true rfl)) (Nat.le_trans h2 (Nat.le_of_ble_eq_true rfl)) (fun r_5 xw_6 hx_7 => ?_)
  refine k_pop X dL_law_k64.1.2.2.2 rfl ?_
  refine k_aload_n X dL_law_k64.2.1.1.1 2 rfl ?_
  refine k_aload_n X dL_law_k64.2.1.1.2 4 rfl ?_
  refine k_iload X dL_law_k64.2.1.2.1 0 rfl ?_
  refine k_iconst (v := 1) X dL_law_k64.2.1.2.2 ic_1 ?_
  refine k_iadd X dL_law_k64.2.2.1.1 ?_
  refine k_to z_1 ez_1.symm ?_
  refine k_sld X hX hbl hbA dL_law_k64.2.2.1.2 (by rw [vp_in_iff]; have := iv_3; omega) ?_
  refine k_to a_4 ea_4.symm ?_
  refine lm_far (st := []) a_4 X hm dL_law_k64.2.2.2.1 mw1214 (Nat.le_of_ble_eq_true rfl) (Nat.le_of_ble_eq_true rfl) (Nat.le_of_ble_eq_true rfl) (Nat.le_trans h1 (Nat.le_of_ble_eq_true rfl)) (Nat.le_trans h2 (Nat.le_of_ble_eq_true rfl)) (fun r_8 mw_9 hm_10 => ?_)
  refine k_pop X dL_law_k64.2.2.2.2 rfl ?_
  refine k_goto 2062 X dL_law_k65 (jp_e rfl) ?_
  exact kk _ _ _ _ _ _ _ _ _ _ _ _ _ _ _ _ _ _ _ _ _ _ _ _ _ _ _ _ _ _ _ _ _ _ _ _ _ _ _ _ hx_7 hm_10 hR

theorem dL_law_k66 : ((((dD cL_law 1333 (.aload_n 1) 1 ∧ dD cL_law 1334 (.aload_n 0) 1) ∧ (dD cL_law 1335 (.iload 4) 2 ∧ dD cL_law 1337 (.iconst 1) 1)) ∧ ((dD cL_law 1338 .iadd 1 ∧ dD cL_law 1339 .iaload 1) ∧ (dD cL_law 1340 (.aload_n 0) 1 ∧ dD cL_law 1341 (.iload 4) 2))) ∧ (((dD cL_law 1343 (.iconst 2) 1 ∧ dD cL_law 1344 .iadd 1) ∧ (dD cL_law 1345 .iaload 1 ∧ dD cL_law 1346 (.ifCond .eq 7) 3)) ∧ ((dD cL_law 1349 (.iconst 1) 1 ∧ dD cL_law 1350 (.goto 4) 3) ∧ (dD cL_law 1353 (.iconst 0) 1 ∧ dD cL_law 1354 (.invokevirtual 155) 3)))) := dkA16 (by decide +kernel)
theorem dL_law_k67 : ((((dD cL_law 1357 .pop 1 ∧ dD cL_law 1358 (.aload_n 2) 1) ∧ (dD cL_law 1359 (.aload_n 0) 1 ∧ dD cL_law 1360 (.iload 4) 2)) ∧ ((dD cL_law 1362 (.iconst 1) 1 ∧ dD cL_law 1363 .iadd 1) ∧ (dD cL_law 1364 .iaload 1 ∧ dD cL_law 1365 (.aload_n 0) 1))) ∧ (((dD cL_law 1366 (.iload 4) 2 ∧ dD cL_law 1368 (.iconst 2) 1) ∧ (dD cL_law 1369 .iadd 1 ∧ dD cL_law 1370 .iaload 1)) ∧ ((dD cL_law 1371 (.ifCond .eq 7) 3 ∧ dD cL_law 1374 (.iconst 1) 1) ∧ (dD cL_law 1375 (.goto 4) 3 ∧ dD cL_law 1378 (.iconst 0) 1)))) := dkA16 (by decide +kernel)
theorem dL_law_k68 : (dD cL_law 1379 (.invokevirtual 159) 3 ∧ (dD cL_law 1382 .pop 1 ∧ dD cL_law 1383 (.goto 679) 3)) := dkA3 (by decide +kernel)
set_option maxHeartbeats 4000000 in
set_option maxRecDepth 100000 in
theorem law_c33 {p : Program} {l : Launch} {e : Env} {s : State} {m : MethodId} {below : List Frame} {meth : Method} {c : Code} {A : Nat → Prop} {g : Gx} {b L : Nat} {xs : Nat → Int32} {h0 mo lo n1 n2 : Nat} {fo : Nat → Int64} {u4 : Int32} {xtpd : Int32} {tpf : Nat → Int32} {yhnf : Nat → Int32} {yhtn : Int32} {yhtf : Nat → Int32} {yhjn : Int32} {yhjf : Nat → Int32} {yhmn : Int32} {yhmf : Nat → Int32} {yhbn : Int32} {yhbf : Nat → Int32} {yhsn : Int32} {yhsf : Nat → Int32} {yhcn : Int32} {yhcf : Nat → Int32} {zrn : Int32} {zmn : Int32} {zwn : Int32} {zpn : Int32} {zmd : Int32} {ztr : Int32} {zrf : Nat → Int32} {zmf : Nat → Int32} {zwf : Nat → Int32} {zpf : Nat → Int32} {kac : Int32} {knx : Int32} {kim : Int32} {cf : Nat → SC} {m_taped : Int32} {d_tape : Nat → Int32} {d_r : Nat → Int32} {d_st : Nat → Int32} {d_undone : Nat → Int32} {d_kept : Nat → Int32} {m_undos : Int32} {m_images : Int32} {m_hasHouse : Int32} {xw mw : va_W} (X : Cx p s m meth c #[Value.ref b] cL_law 7 RL A g) (hX : va_X b L xs s s.heap) (hbl : b < s.heap.size) (hbA : ¬ A b) (hi : 0 ≤ u4.toInt ∧ u4.toInt + 6 ≤ (L : Int)) (hL : L ≤ 3072) (h1 : n1 ≤ 601023) (h2 : n2 ≤ 7293028) (hlt : l.stackTraces = false) (hZ : kZ A s s.heap) (htsE : ∀ w ∈ wsE, w.before #[Value.ref b] s = true) (hx : XW g h0 xtpd tpf yhnf yhtn yhtf yhjn yhjf yhmn yhmf yhbn yhbf yhsn yhsf yhcn yhcf zrn zmn zwn zpn zmd ztr zrf zmf zwf zpf kac knx kim cf xw) (hm : MW g mo m_taped d_tape d_r d_st d_undone d_kept m_undos m_images m_hasHouse mw) (hR : LR xtpd tpf yhnf yhtn yhtf yhjn yhjf yhmn yhmf yhbn yhbf yhsn yhsf yhcn yhcf zrn zmn zwn zpn zmd ztr zrf zmf zwf zpf kac knx kim cf m_taped d_tape d_r d_st d_undone d_kept m_undos m_images m_hasHouse) (kk : ∀ (xtpd_2 : Int32) (tpf_2 : Nat → Int32) (yhnf_2 : Nat → Int32) (yhtn_2 : Int32) (yhtf_2 : Nat → Int32) (yhjn_2 : Int32) (yhjf_2 : Nat → Int32) (yhmn_2 : Int32) (yhmf_2 : Nat → Int32) (yhbn_2 : Int32) (yhbf_2 : Nat → Int32) (yhsn_2 : Int32) (yhsf_2 : Nat → Int32) (yhcn_2 : Int32) (yhcf_2 : Nat → Int32) (zrn_2 : Int32) (zmn_2 : Int32) (zwn_2 : Int32) (zpn_2 : Int32) (zmd_2 : Int32) (ztr_2 : Int32) (zrf_2 : Nat → Int32) (zmf_2 : Nat → Int32) (zwf_2 : Nat → Int32) (zpf_2 : Nat → Int32) (kac_2 : Int32) (knx_2 : Int32) (kim_2 : Int32) (cf_2 : Nat → SC) (m_taped_2 : Int32) (d_tape_2 : Nat → Int32) (d_r_2 : Nat → Int32) (d_st_2 : Nat → Int32) (d_undone_2 : Nat → Int32) (d_kept_2 : Nat → Int32) (m_undos_2 : Int32) (m_images_2 : Int32) (m_hasHouse_2 : Int32) (xw2 mw2 : va_W), XW g h0 xtpd_2 tpf_2 yhnf_2 yhtn_2 yhtf_2 yhjn_2 yhjf_2 yhmn_2 yhmf_2 yhbn_2 yhbf_2 yhsn_2 yhsf_2 yhcn_2 yhcf_2 zrn_2 zmn_2 zwn_2 zpn_2 zmd_2 ztr_2 zrf_2 zmf_2 zwf_2 zpf_2 kac_2 knx_2 kim_2 cf_2 xw2 → MW g mo m_taped_2 d_tape_2 d_r_2 d_st_2 d_undone_2 d_kept_2 m_undos_2 m_images_2 m_hasHouse_2 mw2 → LR xtpd_2 tpf_2 yhnf_2 yhtn_2 yhtf_2 yhjn_2 yhjf_2 yhmn_2 yhmf_2 yhbn_2 yhbf_2 yhsn_2 yhsf_2 yhcn_2 yhcf_2 zrn_2 zmn_2 zwn_2 zpn_2 zmd_2 ztr_2 zrf_2 zmf_2 zwf_2 zpf_2 kac_2 knx_2 kim_2 cf_2 m_taped_2 d_tape_2 d_r_2 d_st_2 d_undone_2 d_kept_2 m_undos_2 m_images_2 m_hasHouse_2 → Wk p l e room_1 s m #[Value.ref b] below meth c (lw_Z below #[Value.ref b] s) A g 7 n1 n2 (xw2 ++ (mw2 ++ [(cAJ g lo 1 fo)])) [(4, .int u4), (3, .ref lo), (2, .ref mo), (1, .ref h0), (0, .ref b)] 2062 []) : Wk p l e room_1 s m #[Value.ref b] below meth c (lw_Z below #[Value.ref b] s) A g 7 n1 n2 (xw ++ (mw ++ [(cAJ g lo 1 fo)])) [(4, .int u4), (3, .ref lo), (2, .ref mo), (1, .ref h0), (0, .ref b)] 1333 [] := by
  have hiv : IV u4 0 3066 := ⟨hi.1, by omega⟩
  refine k_aload_n X dL_law_k66.1.1.1.1 3 rfl ?_
  refine k_aload_n X dL_law_k66.1.1.1.2 4 rfl ?_
  refine k_iload X dL_law_k66.1.1.2.1 0 rfl ?_
  refine k_iconst (v := 1) X dL_law_k66.1.1.2.2 ic_1 ?_
  refine k_iadd X dL_law_k66.1.2.1.1 ?_
  refine k_nm (fun z_1 ez_1 => ?_)
  have i_2 : z_1.toInt = u4.toInt + 1 := in_add ez_1 hiv iq_1_1_1 (zle_e rfl) (zle_e rfl)
  have iv_3 : IV z_1 1 3067 := by have := hiv; have := iq_1_1_1; rw [IV, i_2]; omega
  refine k_sld X hX hbl hbA dL_law_k66.1.2.1.2 (by rw [vp_in_iff]; have := iv_3; omega) ?_
  refine k_nm (fun a_4 ea_4 => ?_)
  refine k_aload_n X dL_law_k66.1.2.2.1 4 rfl ?_
  refine k_iload X dL_law_k66.1.2.2.2 0 rfl ?_
  refine k_iconst (v := 2) X dL_law_k66.2.1.1.1 ic_2 ?_
  refine k_iadd X dL_law_k66.2.1.1.2 ?_
  refine k_nm (fun z_5 ez_5 => ?_)
  have i_6 : z_5.toInt = u4.toInt + 2 := in_add ez_5 hiv iq_2_2_2 (zle_e rfl) (zle_e rfl)
  have iv_7 : IV z_5 2 3068 := by have := hiv; have := iq_2_2_2; rw [IV, i_6]; omega
  refine k_sld X hX hbl hbA dL_law_k66.2.1.2.1 (by rw [vp_in_iff]; have := iv_7; omega) ?_
  refine k_nm (fun a_8 ea_8 => ?_)
  refine k_if_eq 1353 X dL_law_k66.2.1.2.2 (jp_e rfl) (fun h_9 => ?_) (fun h_9 => ?_)
  · skip
    have iv_10 : IV a_8 0 0 := iv_meet (iv_any a_8) (iv_e h_9 iq_0_0_0) (zle_o rfl) (zle_o rfl)
    refine k_iconst (v := 0) X dL_law_k66.2.2.2.1 ic_0 ?_
    refine lx_missing (st := []) a_4 0 X hx dL_law_k66.2.2.2.2 mw1218 (Nat.le_of_ble_eq_true rfl) (Nat.le_of_ble_eq_true rfl) (Nat.le_of_ble_eq_true rfl) (Nat.le_trans h1 (Nat.le_of_ble_eq_true rfl)) (Nat.le_trans h2 (Nat.le_of_ble_eq_true rfl)) (fun r_11 xw_12 hx_13 => ?_)
    refine k_pop X dL_law_k67.1.1.1.1 rfl ?_
    refine k_aload_n X dL_law_k67.1.1.1.2 2 rfl ?_
    refine k_aload_n X dL_law_k67.1.1.2.1 4 rfl ?_
    refine k_iload X dL_law_k67.1.1.2.2 0 rfl ?_
    refine k_iconst (v := 1) X dL_law_k67.1.2.1.1 ic_1 ?_
    refine k_iadd X dL_law_k67.1.2.1.2 ?_
    refine k_to z_1 ez_1.symm ?_
    refine k_sld X hX hbl hbA dL_law_k67.1.2.2.1 (by rw [vp_in_iff]; have := iv_3; omega) ?_
    refine k_to a_4 ea_4.symm ?_
    refine k_aload_n X dL_law_k67.1.2.2.2 4 rfl ?_
    refine k_iload X dL_law_k67.2.1.1.1 0 rfl ?_
    refine k_iconst (v := 2) X dL_law_k67.2.1.1.2 ic_2 ?_
    refine k_iadd X dL_law_k67.2.1.2.1 ?_
    refine k_to z_5 ez_5.symm ?_
    refine k_sld X hX hbl hbA dL_law_k67.2.1.2.2 (by rw [vp_in_iff]; have := iv_7; omega) ?_
    refine k_to a_8 ea_8.symm ?_
    refine k_if_eq 1378 X dL_law_k67.2.2.1.1 (jp_e rfl) (fun h_14 => ?_) (fun h_14 => absurd h_9 h_14)
    refine k_iconst (v := 0) X dL_law_k67.2.2.2.2 ic_0 ?_
    refine lm_missing (st := []) a_4 0 X hm dL_law_k68.1 mw1227 (Nat.le_of_ble_eq_true rfl) (Nat.le_of_ble_eq_true rfl) (Nat.le_of_ble_eq_true rfl) (Nat.le_trans h1 (Nat.le_of_ble_eq_true rfl)) (Nat.le_trans h2 (Nat.le_of_ble_eq_true rfl)) (fun r_15 mw_16 hm_17 => ?_)
    refine k_pop X dL_law_k68.2.1 rfl ?_
    refine k_goto 2062 X dL_law_k68.2.2 (jp_e rfl) ?_
    exact kk _ _ _ _ _ _ _ _ _ _ _ _ _ _ _ _ _ _ _ _ _ _ _ _ _ _ _ _ _ _ _ _ _ _ _ _ _ _ _ _ hx_13 hm_17 hR
  · skip
    refine k_iconst (v := 1) X dL_law_k66.2.2.1.1 ic_1 ?_
    refine k_goto 1354 X dL_law_k66.2.2.1.2 (jp_e rfl) ?_
    refine lx_missing (st := []) a_4 1 X hx dL_law_k66.2.2.2.2 mw1218 (Nat.le_of_ble_eq_true rfl) (Nat.le_of_ble_eq_true rfl) (Nat.le_of_ble_eq_true rfl) (Nat.le_trans h1 (Nat.le_of_ble_eq_true rfl)) (Nat.le_trans h2 (Nat.le_of_ble_eq_true rfl)) (fun r_18 xw_19 hx_20 => ?_)
    refine k_pop X dL_law_k67.1.1.1.1 rfl ?_
    refine k_aload_n X dL_law_k67.1.1.1.2 2 rfl ?_
    refine k_aload_n X dL_law_k67.1.1.2.1 4 rfl ?_
    refine k_iload X dL_law_k67.1.1.2.2 0 rfl ?_
    refine k_iconst (v := 1) X dL_law_k67.1.2.1.1 ic_1 ?_
    refine k_iadd X dL_law_k67.1.2.1.2 ?_
    refine k_to z_1 ez_1.symm ?_
    refine k_sld X hX hbl hbA dL_law_k67.1.2.2.1 (by rw [vp_in_iff]; have := iv_3; omega) ?_
    refine k_to a_4 ea_4.symm ?_
    refine k_aload_n X dL_law_k67.1.2.2.2 4 rfl ?_
    refine k_iload X dL_law_k67.2.1.1.1 0 rfl ?_
    refine k_iconst (v := 2) X dL_law_k67.2.1.1.2 ic_2 ?_
    refine k_iadd X dL_law_k67.2.1.2.1 ?_
    refine k_to z_5 ez_5.symm ?_
    refine k_sld X hX hbl hbA dL_law_k67.2.1.2.2 (by rw [vp_in_iff]; have := iv_7; omega) ?_
    refine k_to a_8 ea_8.symm ?_
    refine k_if_eq 1378 X dL_law_k67.2.2.1.1 (jp_e rfl) (fun h_21 => absurd h_21 h_9) (fun h_21 => ?_)
    refine k_iconst (v := 1) X dL_law_k67.2.2.1.2 ic_1 ?_
    refine k_goto 1379 X dL_law_k67.2.2.2.1 (jp_e rfl) ?_
    refine lm_missing (st := []) a_4 1 X hm dL_law_k68.1 mw1227 (Nat.le_of_ble_eq_true rfl) (Nat.le_of_ble_eq_true rfl) (Nat.le_of_ble_eq_true rfl) (Nat.le_trans h1 (Nat.le_of_ble_eq_true rfl)) (Nat.le_trans h2 (Nat.le_of_ble_eq_true rfl)) (fun r_22 mw_23 hm_24 => ?_)
    refine k_pop X dL_law_k68.2.1 rfl ?_
    refine k_goto 2062 X dL_law_k68.2.2 (jp_e rfl) ?_
    exact kk _ _ _ _ _ _ _ _ _ _ _ _ _ _ _ _ _ _ _ _ _ _ _ _ _ _ _ _ _ _ _ _ _ _ _ _ _ _ _ _ hx_20 hm_24 hR

theorem dL_law_k69 : ((((dD cL_law 1386 (.aload_n 1) 1 ∧ dD cL_law 1387 (.aload_n 0) 1) ∧ (dD cL_law 1388 (.iload 4) 2 ∧ dD cL_law 1390 (.iconst 1) 1)) ∧ ((dD cL_law 1391 .iadd 1 ∧ dD cL_law 1392 .iaload 1) ∧ (dD cL_law 1393 (.invokevirtual 160) 3 ∧ dD cL_law 1396 .pop 1))) ∧ (((dD cL_law 1397 (.aload_n 2) 1 ∧ dD cL_law 1398 (.aload_n 0) 1) ∧ (dD cL_law 1399 (.iload 4) 2 ∧ dD cL_law 1401 (.iconst 1) 1)) ∧ ((dD cL_law 1402 .iadd 1 ∧ dD cL_law 1403 .iaload 1) ∧ (dD cL_law 1404 (.invokevirtual 163) 3 ∧ dD cL_law 1407 .pop 1)))) := dkA16 (by decide +kernel)
theorem dL_law_k70 : dD cL_law 1408 (.goto 654) 3 := dkA1 (by decide +kernel)
set_option maxHeartbeats 4000000 in
set_option maxRecDepth 100000 in
theorem law_c34 {p : Program} {l : Launch} {e : Env} {s : State} {m : MethodId} {below : List Frame} {meth : Method} {c : Code} {A : Nat → Prop} {g : Gx} {b L : Nat} {xs : Nat → Int32} {h0 mo lo n1 n2 : Nat} {fo : Nat → Int64} {u4 : Int32} {xtpd : Int32} {tpf : Nat → Int32} {yhnf : Nat → Int32} {yhtn : Int32} {yhtf : Nat → Int32} {yhjn : Int32} {yhjf : Nat → Int32} {yhmn : Int32} {yhmf : Nat → Int32} {yhbn : Int32} {yhbf : Nat → Int32} {yhsn : Int32} {yhsf : Nat → Int32} {yhcn : Int32} {yhcf : Nat → Int32} {zrn : Int32} {zmn : Int32} {zwn : Int32} {zpn : Int32} {zmd : Int32} {ztr : Int32} {zrf : Nat → Int32} {zmf : Nat → Int32} {zwf : Nat → Int32} {zpf : Nat → Int32} {kac : Int32} {knx : Int32} {kim : Int32} {cf : Nat → SC} {m_taped : Int32} {d_tape : Nat → Int32} {d_r : Nat → Int32} {d_st : Nat → Int32} {d_undone : Nat → Int32} {d_kept : Nat → Int32} {m_undos : Int32} {m_images : Int32} {m_hasHouse : Int32} {xw mw : va_W} (X : Cx p s m meth c #[Value.ref b] cL_law 7 RL A g) (hX : va_X b L xs s s.heap) (hbl : b < s.heap.size) (hbA : ¬ A b) (hi : 0 ≤ u4.toInt ∧ u4.toInt + 6 ≤ (L : Int)) (hL : L ≤ 3072) (h1 : n1 ≤ 601023) (h2 : n2 ≤ 7293028) (hlt : l.stackTraces = false) (hZ : kZ A s s.heap) (htsE : ∀ w ∈ wsE, w.before #[Value.ref b] s = true) (hx : XW g h0 xtpd tpf yhnf yhtn yhtf yhjn yhjf yhmn yhmf yhbn yhbf yhsn yhsf yhcn yhcf zrn zmn zwn zpn zmd ztr zrf zmf zwf zpf kac knx kim cf xw) (hm : MW g mo m_taped d_tape d_r d_st d_undone d_kept m_undos m_images m_hasHouse mw) (hR : LR xtpd tpf yhnf yhtn yhtf yhjn yhjf yhmn yhmf yhbn yhbf yhsn yhsf yhcn yhcf zrn zmn zwn zpn zmd ztr zrf zmf zwf zpf kac knx kim cf m_taped d_tape d_r d_st d_undone d_kept m_undos m_images m_hasHouse) (kk : ∀ (xtpd_2 : Int32) (tpf_2 : Nat → Int32) (yhnf_2 : Nat → Int32) (yhtn_2 : Int32) (yhtf_2 : Nat → Int32) (yhjn_2 : Int32) (yhjf_2 : Nat → Int32) (yhmn_2 : Int32) (yhmf_2 : Nat → Int32) (yhbn_2 : Int32) (yhbf_2 : Nat → Int32) (yhsn_2 : Int32) (yhsf_2 : Nat → Int32) (yhcn_2 : Int32) (yhcf_2 : Nat → Int32) (zrn_2 : Int32) (zmn_2 : Int32) (zwn_2 : Int32) (zpn_2 : Int32) (zmd_2 : Int32) (ztr_2 : Int32) (zrf_2 : Nat → Int32) (zmf_2 : Nat → Int32) (zwf_2 : Nat → Int32) (zpf_2 : Nat → Int32) (kac_2 : Int32) (knx_2 : Int32) (kim_2 : Int32) (cf_2 : Nat → SC) (m_taped_2 : Int32) (d_tape_2 : Nat → Int32) (d_r_2 : Nat → Int32) (d_st_2 : Nat → Int32) (d_undone_2 : Nat → Int32) (d_kept_2 : Nat → Int32) (m_undos_2 : Int32) (m_images_2 : Int32) (m_hasHouse_2 : Int32) (xw2 mw2 : va_W), XW g h0 xtpd_2 tpf_2 yhnf_2 yhtn_2 yhtf_2 yhjn_2 yhjf_2 yhmn_2 yhmf_2 yhbn_2 yhbf_2 yhsn_2 yhsf_2 yhcn_2 yhcf_2 zrn_2 zmn_2 zwn_2 zpn_2 zmd_2 ztr_2 zrf_2 zmf_2 zwf_2 zpf_2 kac_2 knx_2 kim_2 cf_2 xw2 → MW g mo m_taped_2 d_tape_2 d_r_2 d_st_2 d_undone_2 d_kept_2 m_undos_2 m_images_2 m_hasHouse_2 mw2 → LR xtpd_2 tpf_2 yhnf_2 yhtn_2 yhtf_2 yhjn_2 yhjf_2 yhmn_2 yhmf_2 yhbn_2 yhbf_2 yhsn_2 yhsf_2 yhcn_2 yhcf_2 zrn_2 zmn_2 zwn_2 zpn_2 zmd_2 ztr_2 zrf_2 zmf_2 zwf_2 zpf_2 kac_2 knx_2 kim_2 cf_2 m_taped_2 d_tape_2 d_r_2 d_st_2 d_undone_2 d_kept_2 m_undos_2 m_images_2 m_hasHouse_2 → Wk p l e room_1 s m #[Value.ref b] below meth c (lw_Z below #[Value.ref b] s) A g 7 n1 n2 (xw2 ++ (mw2 ++ [(cAJ g lo 1 fo)])) [(4, .int u4), (3, .ref lo), (2, .ref mo), (1, .ref h0), (0, .ref b)] 2062 []) : Wk p l e room_1 s m #[Value.ref b] below meth c (lw_Z below #[Value.ref b] s) A g 7 n1 n2 (xw ++ (mw ++ [(cAJ g lo 1 fo)])) [(4, .int u4), (3, .ref lo), (2, .ref mo), (1, .ref h0), (0, .ref b)] 1386 [] := by
  have hiv : IV u4 0 3066 := ⟨hi.1, by omega⟩
  refine k_aload_n X dL_law_k69.1.1.1.1 3 rfl ?_
  refine k_aload_n X dL_law_k69.1.1.1.2 4 rfl ?_
  refine k_iload X dL_law_k69.1.1.2.1 0 rfl ?_
  refine k_iconst (v := 1) X dL_law_k69.1.1.2.2 ic_1 ?_
  refine k_iadd X dL_law_k69.1.2.1.1 ?_
  refine k_nm (fun z_1 ez_1 => ?_)
  have i_2 : z_1.toInt = u4.toInt + 1 := in_add ez_1 hiv iq_1_1_1 (zle_e rfl) (zle_e rfl)
  have iv_3 : IV z_1 1 3067 := by have := hiv; have := iq_1_1_1; rw [IV, i_2]; omega
  refine k_sld X hX hbl hbA dL_law_k69.1.2.1.2 (by rw [vp_in_iff]; have := iv_3; omega) ?_
  refine k_nm (fun a_4 ea_4 => ?_)
  refine lx_words (st := []) a_4 X hx dL_law_k69.1.2.2.1 mw1231 (Nat.le_of_ble_eq_true rfl) (Nat.le_of_ble_eq_true rfl) (Nat.le_of_ble_eq_true rfl) (Nat.le_trans h1 (Nat.le_of_ble_eq_true rfl)) (Nat.le_trans h2 (Nat.le_of_ble_eq_true rfl)) (fun r_5 xw_6 hx_7 => ?_)
  refine k_pop X dL_law_k69.1.2.2.2 rfl ?_
  refine k_aload_n X dL_law_k69.2.1.1.1 2 rfl ?_
  refine k_aload_n X dL_law_k69.2.1.1.2 4 rfl ?_
  refine k_iload X dL_law_k69.2.1.2.1 0 rfl ?_
  refine k_iconst (v := 1) X dL_law_k69.2.1.2.2 ic_1 ?_
  refine k_iadd X dL_law_k69.2.2.1.1 ?_
  refine k_to z_1 ez_1.symm ?_
  refine k_sld X hX hbl hbA dL_law_k69.2.2.1.2 (by rw [vp_in_iff]; have := iv_3; omega) ?_
  refine k_to a_4 ea_4.symm ?_
  refine lm_words (st := []) a_4 X hm dL_law_k69.2.2.2.1 mw1235 (Nat.le_of_ble_eq_true rfl) (Nat.le_of_ble_eq_true rfl) (Nat.le_of_ble_eq_true rfl) (Nat.le_trans h1 (Nat.le_of_ble_eq_true rfl)) (Nat.le_trans h2 (Nat.le_of_ble_eq_true rfl)) (fun r_8 mw_9 hm_10 => ?_)
  refine k_pop X dL_law_k69.2.2.2.2 rfl ?_
  refine k_goto 2062 X dL_law_k70 (jp_e rfl) ?_
  exact kk _ _ _ _ _ _ _ _ _ _ _ _ _ _ _ _ _ _ _ _ _ _ _ _ _ _ _ _ _ _ _ _ _ _ _ _ _ _ _ _ hx_7 hm_10 hR

theorem dL_law_k71 : ((((dD cL_law 1411 (.aload_n 1) 1 ∧ dD cL_law 1412 (.aload_n 0) 1) ∧ (dD cL_law 1413 (.iload 4) 2 ∧ dD cL_law 1415 (.iconst 1) 1)) ∧ ((dD cL_law 1416 .iadd 1 ∧ dD cL_law 1417 .iaload 1) ∧ (dD cL_law 1418 (.aload_n 0) 1 ∧ dD cL_law 1419 (.iload 4) 2))) ∧ (((dD cL_law 1421 (.iconst 2) 1 ∧ dD cL_law 1422 .iadd 1) ∧ (dD cL_law 1423 .iaload 1 ∧ dD cL_law 1424 (.aload_n 0) 1)) ∧ ((dD cL_law 1425 (.iload 4) 2 ∧ dD cL_law 1427 (.iconst 3) 1) ∧ (dD cL_law 1428 .iadd 1 ∧ dD cL_law 1429 .iaload 1)))) := dkA16 (by decide +kernel)
theorem dL_law_k72 : ((((dD cL_law 1430 (.ifCond .eq 7) 3 ∧ dD cL_law 1433 (.iconst 1) 1) ∧ (dD cL_law 1434 (.goto 4) 3 ∧ dD cL_law 1437 (.iconst 0) 1)) ∧ ((dD cL_law 1438 (.invokevirtual 164) 3 ∧ dD cL_law 1441 .pop2 1) ∧ (dD cL_law 1442 (.aload_n 2) 1 ∧ dD cL_law 1443 (.aload_n 0) 1))) ∧ (((dD cL_law 1444 (.iload 4) 2 ∧ dD cL_law 1446 (.iconst 1) 1) ∧ (dD cL_law 1447 .iadd 1 ∧ dD cL_law 1448 .iaload 1)) ∧ ((dD cL_law 1449 (.aload_n 0) 1 ∧ dD cL_law 1450 (.iload 4) 2) ∧ (dD cL_law 1452 (.iconst 2) 1 ∧ dD cL_law 1453 .iadd 1)))) := dkA16 (by decide +kernel)
theorem dL_law_k73 : (((dD cL_law 1454 .iaload 1 ∧ (dD cL_law 1455 (.aload_n 0) 1 ∧ dD cL_law 1456 (.iload 4) 2)) ∧ (dD cL_law 1458 (.iconst 3) 1 ∧ (dD cL_law 1459 .iadd 1 ∧ dD cL_law 1460 .iaload 1))) ∧ ((dD cL_law 1461 (.ifCond .eq 7) 3 ∧ (dD cL_law 1464 (.iconst 1) 1 ∧ dD cL_law 1465 (.goto 4) 3)) ∧ ((dD cL_law 1468 (.iconst 0) 1 ∧ dD cL_law 1469 (.invokevirtual 167) 3) ∧ (dD cL_law 1472 .pop2 1 ∧ dD cL_law 1473 (.goto 589) 3)))) := dkA13 (by decide +kernel)
set_option maxHeartbeats 4000000 in
set_option maxRecDepth 100000 in
theorem law_c35 {p : Program} {l : Launch} {e : Env} {s : State} {m : MethodId} {below : List Frame} {meth : Method} {c : Code} {A : Nat → Prop} {g : Gx} {b L : Nat} {xs : Nat → Int32} {h0 mo lo n1 n2 : Nat} {fo : Nat → Int64} {u4 : Int32} {xtpd : Int32} {tpf : Nat → Int32} {yhnf : Nat → Int32} {yhtn : Int32} {yhtf : Nat → Int32} {yhjn : Int32} {yhjf : Nat → Int32} {yhmn : Int32} {yhmf : Nat → Int32} {yhbn : Int32} {yhbf : Nat → Int32} {yhsn : Int32} {yhsf : Nat → Int32} {yhcn : Int32} {yhcf : Nat → Int32} {zrn : Int32} {zmn : Int32} {zwn : Int32} {zpn : Int32} {zmd : Int32} {ztr : Int32} {zrf : Nat → Int32} {zmf : Nat → Int32} {zwf : Nat → Int32} {zpf : Nat → Int32} {kac : Int32} {knx : Int32} {kim : Int32} {cf : Nat → SC} {m_taped : Int32} {d_tape : Nat → Int32} {d_r : Nat → Int32} {d_st : Nat → Int32} {d_undone : Nat → Int32} {d_kept : Nat → Int32} {m_undos : Int32} {m_images : Int32} {m_hasHouse : Int32} {xw mw : va_W} (X : Cx p s m meth c #[Value.ref b] cL_law 7 RL A g) (hX : va_X b L xs s s.heap) (hbl : b < s.heap.size) (hbA : ¬ A b) (hi : 0 ≤ u4.toInt ∧ u4.toInt + 6 ≤ (L : Int)) (hL : L ≤ 3072) (h1 : n1 ≤ 601023) (h2 : n2 ≤ 7293028) (hlt : l.stackTraces = false) (hZ : kZ A s s.heap) (htsE : ∀ w ∈ wsE, w.before #[Value.ref b] s = true) (hx : XW g h0 xtpd tpf yhnf yhtn yhtf yhjn yhjf yhmn yhmf yhbn yhbf yhsn yhsf yhcn yhcf zrn zmn zwn zpn zmd ztr zrf zmf zwf zpf kac knx kim cf xw) (hm : MW g mo m_taped d_tape d_r d_st d_undone d_kept m_undos m_images m_hasHouse mw) (hR : LR xtpd tpf yhnf yhtn yhtf yhjn yhjf yhmn yhmf yhbn yhbf yhsn yhsf yhcn yhcf zrn zmn zwn zpn zmd ztr zrf zmf zwf zpf kac knx kim cf m_taped d_tape d_r d_st d_undone d_kept m_undos m_images m_hasHouse) (kk : ∀ (xtpd_2 : Int32) (tpf_2 : Nat → Int32) (yhnf_2 : Nat → Int32) (yhtn_2 : Int32) (yhtf_2 : Nat → Int32) (yhjn_2 : Int32) (yhjf_2 : Nat → Int32) (yhmn_2 : Int32) (yhmf_2 : Nat → Int32) (yhbn_2 : Int32) (yhbf_2 : Nat → Int32) (yhsn_2 : Int32) (yhsf_2 : Nat → Int32) (yhcn_2 : Int32) (yhcf_2 : Nat → Int32) (zrn_2 : Int32) (zmn_2 : Int32) (zwn_2 : Int32) (zpn_2 : Int32) (zmd_2 : Int32) (ztr_2 : Int32) (zrf_2 : Nat → Int32) (zmf_2 : Nat → Int32) (zwf_2 : Nat → Int32) (zpf_2 : Nat → Int32) (kac_2 : Int32) (knx_2 : Int32) (kim_2 : Int32) (cf_2 : Nat → SC) (m_taped_2 : Int32) (d_tape_2 : Nat → Int32) (d_r_2 : Nat → Int32) (d_st_2 : Nat → Int32) (d_undone_2 : Nat → Int32) (d_kept_2 : Nat → Int32) (m_undos_2 : Int32) (m_images_2 : Int32) (m_hasHouse_2 : Int32) (xw2 mw2 : va_W), XW g h0 xtpd_2 tpf_2 yhnf_2 yhtn_2 yhtf_2 yhjn_2 yhjf_2 yhmn_2 yhmf_2 yhbn_2 yhbf_2 yhsn_2 yhsf_2 yhcn_2 yhcf_2 zrn_2 zmn_2 zwn_2 zpn_2 zmd_2 ztr_2 zrf_2 zmf_2 zwf_2 zpf_2 kac_2 knx_2 kim_2 cf_2 xw2 → MW g mo m_taped_2 d_tape_2 d_r_2 d_st_2 d_undone_2 d_kept_2 m_undos_2 m_images_2 m_hasHouse_2 mw2 → LR xtpd_2 tpf_2 yhnf_2 yhtn_2 yhtf_2 yhjn_2 yhjf_2 yhmn_2 yhmf_2 yhbn_2 yhbf_2 yhsn_2 yhsf_2 yhcn_2 yhcf_2 zrn_2 zmn_2 zwn_2 zpn_2 zmd_2 ztr_2 zrf_2 zmf_2 zwf_2 zpf_2 kac_2 knx_2 kim_2 cf_2 m_taped_2 d_tape_2 d_r_2 d_st_2 d_undone_2 d_kept_2 m_undos_2 m_images_2 m_hasHouse_2 → Wk p l e room_1 s m #[Value.ref b] below meth c (lw_Z below #[Value.ref b] s) A g 7 n1 n2 (xw2 ++ (mw2 ++ [(cAJ g lo 1 fo)])) [(4, .int u4), (3, .ref lo), (2, .ref mo), (1, .ref h0), (0, .ref b)] 2062 []) : Wk p l e room_1 s m #[Value.ref b] below meth c (lw_Z below #[Value.ref b] s) A g 7 n1 n2 (xw ++ (mw ++ [(cAJ g lo 1 fo)])) [(4, .int u4), (3, .ref lo), (2, .ref mo), (1, .ref h0), (0, .ref b)] 1411 [] := by
  have hiv : IV u4 0 3066 := ⟨hi.1, by omega⟩
  refine k_aload_n X dL_law_k71.1.1.1.1 3 rfl ?_
  refine k_aload_n X dL_law_k71.1.1.1.2 4 rfl ?_
  refine k_iload X dL_law_k71.1.1.2.1 0 rfl ?_
  refine k_iconst (v := 1) X dL_law_k71.1.1.2.2 ic_1 ?_
  refine k_iadd X dL_law_k71.1.2.1.1 ?_
  refine k_nm (fun z_1 ez_1 => ?_)
  have i_2 : z_1.toInt = u4.toInt + 1 := in_add ez_1 hiv iq_1_1_1 (zle_e rfl) (zle_e rfl)
  have iv_3 : IV z_1 1 3067 := by have := hiv; have := iq_1_1_1; rw [IV, i_2]; omega
  refine k_sld X hX hbl hbA dL_law_k71.1.2.1.2 (by rw [vp_in_iff]; have := iv_3; omega) ?_
  refine k_nm (fun a_4 ea_4 => ?_)
  refine k_aload_n X dL_law_k71.1.2.2.1 4 rfl ?_
  refine k_iload X dL_law_k71.1.2.2.2 0 rfl ?_
  refine k_iconst (v := 2) X dL_law_k71.2.1.1.1 ic_2 ?_
  refine k_iadd X dL_law_k71.2.1.1.2 ?_
  refine k_nm (fun z_5 ez_5 => ?_)
  have i_6 : z_5.toInt = u4.toInt + 2 := in_add ez_5 hiv iq_2_2_2 (zle_e rfl) (zle_e rfl)
  have iv_7 : IV z_5 2 3068 := by have := hiv; have := iq_2_2_2; rw [IV, i_6]; omega
  refine k_sld X hX hbl hbA dL_law_k71.2.1.2.1 (by rw [vp_in_iff]; have := iv_7; omega) ?_
  refine k_nm (fun a_8 ea_8 => ?_)
  refine k_aload_n X dL_law_k71.2.1.2.2 4 rfl ?_
  refine k_iload X dL_law_k71.2.2.1.1 0 rfl ?_
  refine k_iconst (v := 3) X dL_law_k71.2.2.1.2 ic_3 ?_
  refine k_iadd X dL_law_k71.2.2.2.1 ?_
  refine k_nm (fun z_9 ez_9 => ?_)
  have i_10 : z_9.toInt = u4.toInt + 3 := in_add ez_9 hiv iq_3_3_3 (zle_e rfl) (zle_e rfl)
  have iv_11 : IV z_9 3 3069 := by have := hiv; have := iq_3_3_3; rw [IV, i_10]; omega
  refine k_sld X hX hbl hbA dL_law_k71.2.2.2.2 (by rw [vp_in_iff]; have := iv_11; omega) ?_
  refine k_nm (fun a_12 ea_12 => ?_)
  refine k_if_eq 1437 X dL_law_k72.1.1.1.1 (jp_e rfl) (fun h_13 => ?_) (fun h_13 => ?_)
  · skip
    have iv_14 : IV a_12 0 0 := iv_meet (iv_any a_12) (iv_e h_13 iq_0_0_0) (zle_o rfl) (zle_o rfl)
    refine k_iconst (v := 0) X dL_law_k72.1.1.2.2 ic_0 ?_
    refine lx_holds (st := []) a_4 a_8 0 X hx dL_law_k72.1.2.1.1 mw1239 (Nat.le_of_ble_eq_true rfl) (Nat.le_of_ble_eq_true rfl) (Nat.le_of_ble_eq_true rfl) (Nat.le_trans h1 (Nat.le_of_ble_eq_true rfl)) (Nat.le_trans h2 (Nat.le_of_ble_eq_true rfl)) (fun r_15 xw_16 hx_17 => ?_)
    refine k_pop2 X dL_law_k72.1.2.1.2 rfl ?_
    refine k_aload_n X dL_law_k72.1.2.2.1 2 rfl ?_
    refine k_aload_n X dL_law_k72.1.2.2.2 4 rfl ?_
    refine k_iload X dL_law_k72.2.1.1.1 0 rfl ?_
    refine k_iconst (v := 1) X dL_law_k72.2.1.1.2 ic_1 ?_
    refine k_iadd X dL_law_k72.2.1.2.1 ?_
    refine k_to z_1 ez_1.symm ?_
    refine k_sld X hX hbl hbA dL_law_k72.2.1.2.2 (by rw [vp_in_iff]; have := iv_3; omega) ?_
    refine k_to a_4 ea_4.symm ?_
    refine k_aload_n X dL_law_k72.2.2.1.1 4 rfl ?_
    refine k_iload X dL_law_k72.2.2.1.2 0 rfl ?_
    refine k_iconst (v := 2) X dL_law_k72.2.2.2.1 ic_2 ?_
    refine k_iadd X dL_law_k72.2.2.2.2 ?_
    refine k_to z_5 ez_5.symm ?_
    refine k_sld X hX hbl hbA dL_law_k73.1.1.1 (by rw [vp_in_iff]; have := iv_7; omega) ?_
    refine k_to a_8 ea_8.symm ?_
    refine k_aload_n X dL_law_k73.1.1.2.1 4 rfl ?_
    refine k_iload X dL_law_k73.1.1.2.2 0 rfl ?_
    refine k_iconst (v := 3) X dL_law_k73.1.2.1 ic_3 ?_
    refine k_iadd X dL_law_k73.1.2.2.1 ?_
    refine k_to z_9 ez_9.symm ?_
    refine k_sld X hX hbl hbA dL_law_k73.1.2.2.2 (by rw [vp_in_iff]; have := iv_11; omega) ?_
    refine k_to a_12 ea_12.symm ?_
    refine k_if_eq 1468 X dL_law_k73.2.1.1 (jp_e rfl) (fun h_18 => ?_) (fun h_18 => absurd h_13 h_18)
    refine k_iconst (v := 0) X dL_law_k73.2.2.1.1 ic_0 ?_
    refine lm_holds (st := []) a_4 a_8 0 X hm dL_law_k73.2.2.1.2 mw1248 (Nat.le_of_ble_eq_true rfl) (Nat.le_of_ble_eq_true rfl) (Nat.le_of_ble_eq_true rfl) (Nat.le_trans h1 (Nat.le_of_ble_eq_true rfl)) (Nat.le_trans h2 (Nat.le_of_ble_eq_true rfl)) (fun r_19 mw_20 hm_21 => ?_)
    refine k_pop2 X dL_law_k73.2.2.2.1 rfl ?_
    refine k_goto 2062 X dL_law_k73.2.2.2.2 (jp_e rfl) ?_
    exact kk _ _ _ _ _ _ _ _ _ _ _ _ _ _ _ _ _ _ _ _ _ _ _ _ _ _ _ _ _ _ _ _ _ _ _ _ _ _ _ _ hx_17 hm_21 hR
  · skip
    refine k_iconst (v := 1) X dL_law_k72.1.1.1.2 ic_1 ?_
    refine k_goto 1438 X dL_law_k72.1.1.2.1 (jp_e rfl) ?_
    refine lx_holds (st := []) a_4 a_8 1 X hx dL_law_k72.1.2.1.1 mw1239 (Nat.le_of_ble_eq_true rfl) (Nat.le_of_ble_eq_true rfl) (Nat.le_of_ble_eq_true rfl) (Nat.le_trans h1 (Nat.le_of_ble_eq_true rfl)) (Nat.le_trans h2 (Nat.le_of_ble_eq_true rfl)) (fun r_22 xw_23 hx_24 => ?_)
    refine k_pop2 X dL_law_k72.1.2.1.2 rfl ?_
    refine k_aload_n X dL_law_k72.1.2.2.1 2 rfl ?_
    refine k_aload_n X dL_law_k72.1.2.2.2 4 rfl ?_
    refine k_iload X dL_law_k72.2.1.1.1 0 rfl ?_
    refine k_iconst (v := 1) X dL_law_k72.2.1.1.2 ic_1 ?_
    refine k_iadd X dL_law_k72.2.1.2.1 ?_
    refine k_to z_1 ez_1.symm ?_
    refine k_sld X hX hbl hbA dL_law_k72.2.1.2.2 (by rw [vp_in_iff]; have := iv_3; omega) ?_
    refine k_to a_4 ea_4.symm ?_
    refine k_aload_n X dL_law_k72.2.2.1.1 4 rfl ?_
    refine k_iload X dL_law_k72.2.2.1.2 0 rfl ?_
    refine k_iconst (v := 2) X dL_law_k72.2.2.2.1 ic_2 ?_
    refine k_iadd X dL_law_k72.2.2.2.2 ?_
    refine k_to z_5 ez_5.symm ?_
    refine k_sld X hX hbl hbA dL_law_k73.1.1.1 (by rw [vp_in_iff]; have := iv_7; omega) ?_
    refine k_to a_8 ea_8.symm ?_
    refine k_aload_n X dL_law_k73.1.1.2.1 4 rfl ?_
    refine k_iload X dL_law_k73.1.1.2.2 0 rfl ?_
    refine k_iconst (v := 3) X dL_law_k73.1.2.1 ic_3 ?_
    refine k_iadd X dL_law_k73.1.2.2.1 ?_
    refine k_to z_9 ez_9.symm ?_
    refine k_sld X hX hbl hbA dL_law_k73.1.2.2.2 (by rw [vp_in_iff]; have := iv_11; omega) ?_
    refine k_to a_12 ea_12.symm ?_
    refine k_if_eq 1468 X dL_law_k73.2.1.1 (jp_e rfl) (fun h_25 => absurd h_25 h_13) (fun h_25 => ?_)
    refine k_iconst (v := 1) X dL_law_k73.2.1.2.1 ic_1 ?_
    refine k_goto 1469 X dL_law_k73.2.1.2.2 (jp_e rfl) ?_
    refine lm_holds (st := []) a_4 a_8 1 X hm dL_law_k73.2.2.1.2 mw1248 (Nat.le_of_ble_eq_true rfl) (Nat.le_of_ble_eq_true rfl) (Nat.le_of_ble_eq_true rfl) (Nat.le_trans h1 (Nat.le_of_ble_eq_true rfl)) (Nat.le_trans h2 (Nat.le_of_ble_eq_true rfl)) (fun r_26 mw_27 hm_28 => ?_)
    refine k_pop2 X dL_law_k73.2.2.2.1 rfl ?_
    refine k_goto 2062 X dL_law_k73.2.2.2.2 (jp_e rfl) ?_
    exact kk _ _ _ _ _ _ _ _ _ _ _ _ _ _ _ _ _ _ _ _ _ _ _ _ _ _ _ _ _ _ _ _ _ _ _ _ _ _ _ _ hx_24 hm_28 hR

theorem dL_law_k74 : ((((dD cL_law 1476 (.aload_n 1) 1 ∧ dD cL_law 1477 (.aload_n 0) 1) ∧ (dD cL_law 1478 (.iload 4) 2 ∧ dD cL_law 1480 (.iconst 1) 1)) ∧ ((dD cL_law 1481 .iadd 1 ∧ dD cL_law 1482 .iaload 1) ∧ (dD cL_law 1483 (.aload_n 0) 1 ∧ dD cL_law 1484 (.iload 4) 2))) ∧ (((dD cL_law 1486 (.iconst 2) 1 ∧ dD cL_law 1487 .iadd 1) ∧ (dD cL_law 1488 .iaload 1 ∧ dD cL_law 1489 (.invokevirtual 168) 3)) ∧ ((dD cL_law 1492 .pop 1 ∧ dD cL_law 1493 (.aload_n 2) 1) ∧ (dD cL_law 1494 (.aload_n 0) 1 ∧ dD cL_law 1495 (.iload 4) 2)))) := dkA16 (by decide +kernel)
theorem dL_law_k75 : (((dD cL_law 1497 (.iconst 1) 1 ∧ dD cL_law 1498 .iadd 1) ∧ (dD cL_law 1499 .iaload 1 ∧ (dD cL_law 1500 (.aload_n 0) 1 ∧ dD cL_law 1501 (.iload 4) 2))) ∧ ((dD cL_law 1503 (.iconst 2) 1 ∧ (dD cL_law 1504 .iadd 1 ∧ dD cL_law 1505 .iaload 1)) ∧ (dD cL_law 1506 (.invokevirtual 171) 3 ∧ (dD cL_law 1509 .pop 1 ∧ dD cL_law 1510 (.goto 552) 3)))) := dkA11 (by decide +kernel)
set_option maxHeartbeats 4000000 in
set_option maxRecDepth 100000 in
theorem law_c36 {p : Program} {l : Launch} {e : Env} {s : State} {m : MethodId} {below : List Frame} {meth : Method} {c : Code} {A : Nat → Prop} {g : Gx} {b L : Nat} {xs : Nat → Int32} {h0 mo lo n1 n2 : Nat} {fo : Nat → Int64} {u4 : Int32} {xtpd : Int32} {tpf : Nat → Int32} {yhnf : Nat → Int32} {yhtn : Int32} {yhtf : Nat → Int32} {yhjn : Int32} {yhjf : Nat → Int32} {yhmn : Int32} {yhmf : Nat → Int32} {yhbn : Int32} {yhbf : Nat → Int32} {yhsn : Int32} {yhsf : Nat → Int32} {yhcn : Int32} {yhcf : Nat → Int32} {zrn : Int32} {zmn : Int32} {zwn : Int32} {zpn : Int32} {zmd : Int32} {ztr : Int32} {zrf : Nat → Int32} {zmf : Nat → Int32} {zwf : Nat → Int32} {zpf : Nat → Int32} {kac : Int32} {knx : Int32} {kim : Int32} {cf : Nat → SC} {m_taped : Int32} {d_tape : Nat → Int32} {d_r : Nat → Int32} {d_st : Nat → Int32} {d_undone : Nat → Int32} {d_kept : Nat → Int32} {m_undos : Int32} {m_images : Int32} {m_hasHouse : Int32} {xw mw : va_W} (X : Cx p s m meth c #[Value.ref b] cL_law 7 RL A g) (hX : va_X b L xs s s.heap) (hbl : b < s.heap.size) (hbA : ¬ A b) (hi : 0 ≤ u4.toInt ∧ u4.toInt + 6 ≤ (L : Int)) (hL : L ≤ 3072) (h1 : n1 ≤ 601023) (h2 : n2 ≤ 7293028) (hlt : l.stackTraces = false) (hZ : kZ A s s.heap) (htsE : ∀ w ∈ wsE, w.before #[Value.ref b] s = true) (hx : XW g h0 xtpd tpf yhnf yhtn yhtf yhjn yhjf yhmn yhmf yhbn yhbf yhsn yhsf yhcn yhcf zrn zmn zwn zpn zmd ztr zrf zmf zwf zpf kac knx kim cf xw) (hm : MW g mo m_taped d_tape d_r d_st d_undone d_kept m_undos m_images m_hasHouse mw) (hR : LR xtpd tpf yhnf yhtn yhtf yhjn yhjf yhmn yhmf yhbn yhbf yhsn yhsf yhcn yhcf zrn zmn zwn zpn zmd ztr zrf zmf zwf zpf kac knx kim cf m_taped d_tape d_r d_st d_undone d_kept m_undos m_images m_hasHouse) (kk : ∀ (xtpd_2 : Int32) (tpf_2 : Nat → Int32) (yhnf_2 : Nat → Int32) (yhtn_2 : Int32) (yhtf_2 : Nat → Int32) (yhjn_2 : Int32) (yhjf_2 : Nat → Int32) (yhmn_2 : Int32) (yhmf_2 : Nat → Int32) (yhbn_2 : Int32) (yhbf_2 : Nat → Int32) (yhsn_2 : Int32) (yhsf_2 : Nat → Int32) (yhcn_2 : Int32) (yhcf_2 : Nat → Int32) (zrn_2 : Int32) (zmn_2 : Int32) (zwn_2 : Int32) (zpn_2 : Int32) (zmd_2 : Int32) (ztr_2 : Int32) (zrf_2 : Nat → Int32) (zmf_2 : Nat → Int32) (zwf_2 : Nat → Int32) (zpf_2 : Nat → Int32) (kac_2 : Int32) (knx_2 : Int32) (kim_2 : Int32) (cf_2 : Nat → SC) (m_taped_2 : Int32) (d_tape_2 : Nat → Int32) (d_r_2 : Nat → Int32) (d_st_2 : Nat → Int32) (d_undone_2 : Nat → Int32) (d_kept_2 : Nat → Int32) (m_undos_2 : Int32) (m_images_2 : Int32) (m_hasHouse_2 : Int32) (xw2 mw2 : va_W), XW g h0 xtpd_2 tpf_2 yhnf_2 yhtn_2 yhtf_2 yhjn_2 yhjf_2 yhmn_2 yhmf_2 yhbn_2 yhbf_2 yhsn_2 yhsf_2 yhcn_2 yhcf_2 zrn_2 zmn_2 zwn_2 zpn_2 zmd_2 ztr_2 zrf_2 zmf_2 zwf_2 zpf_2 kac_2 knx_2 kim_2 cf_2 xw2 → MW g mo m_taped_2 d_tape_2 d_r_2 d_st_2 d_undone_2 d_kept_2 m_undos_2 m_images_2 m_hasHouse_2 mw2 → LR xtpd_2 tpf_2 yhnf_2 yhtn_2 yhtf_2 yhjn_2 yhjf_2 yhmn_2 yhmf_2 yhbn_2 yhbf_2 yhsn_2 yhsf_2 yhcn_2 yhcf_2 zrn_2 zmn_2 zwn_2 zpn_2 zmd_2 ztr_2 zrf_2 zmf_2 zwf_2 zpf_2 kac_2 knx_2 kim_2 cf_2 m_taped_2 d_tape_2 d_r_2 d_st_2 d_undone_2 d_kept_2 m_undos_2 m_images_2 m_hasHouse_2 → Wk p l e room_1 s m #[Value.ref b] below meth c (lw_Z below #[Value.ref b] s) A g 7 n1 n2 (xw2 ++ (mw2 ++ [(cAJ g lo 1 fo)])) [(4, .int u4), (3, .ref lo), (2, .ref mo), (1, .ref h0), (0, .ref b)] 2062 []) : Wk p l e room_1 s m #[Value.ref b] below meth c (lw_Z below #[Value.ref b] s) A g 7 n1 n2 (xw ++ (mw ++ [(cAJ g lo 1 fo)])) [(4, .int u4), (3, .ref lo), (2, .ref mo), (1, .ref h0), (0, .ref b)] 1476 [] := by
  have hiv : IV u4 0 3066 := ⟨hi.1, by omega⟩
  refine k_aload_n X dL_law_k74.1.1.1.1 3 rfl ?_
  refine k_aload_n X dL_law_k74.1.1.1.2 4 rfl ?_
  refine k_iload X dL_law_k74.1.1.2.1 0 rfl ?_
  refine k_iconst (v := 1) X dL_law_k74.1.1.2.2 ic_1 ?_
  refine k_iadd X dL_law_k74.1.2.1.1 ?_
  refine k_nm (fun z_1 ez_1 => ?_)
  have i_2 : z_1.toInt = u4.toInt + 1 := in_add ez_1 hiv iq_1_1_1 (zle_e rfl) (zle_e rfl)
  have iv_3 : IV z_1 1 3067 := by have := hiv; have := iq_1_1_1; rw [IV, i_2]; omega
  refine k_sld X hX hbl hbA dL_law_k74.1.2.1.2 (by rw [vp_in_iff]; have := iv_3; omega) ?_
  refine k_nm (fun a_4 ea_4 => ?_)
  refine k_aload_n X dL_law_k74.1.2.2.1 4 rfl ?_
  refine k_iload X dL_law_k74.1.2.2.2 0 rfl ?_
  refine k_iconst (v := 2) X dL_law_k74.2.1.1.1 ic_2 ?_
  refine k_iadd X dL_law_k74.2.1.1.2 ?_
  refine k_nm (fun z_5 ez_5 => ?_)
  have i_6 : z_5.toInt = u4.toInt + 2 := in_add ez_5 hiv iq_2_2_2 (zle_e rfl) (zle_e rfl)
  have iv_7 : IV z_5 2 3068 := by have := hiv; have := iq_2_2_2; rw [IV, i_6]; omega
  refine k_sld X hX hbl hbA dL_law_k74.2.1.2.1 (by rw [vp_in_iff]; have := iv_7; omega) ?_
  refine k_nm (fun a_8 ea_8 => ?_)
  refine lx_pays (st := []) a_4 a_8 X hx dL_law_k74.2.1.2.2 mw1259 (Nat.le_of_ble_eq_true rfl) (Nat.le_of_ble_eq_true rfl) (Nat.le_of_ble_eq_true rfl) (Nat.le_trans h1 (Nat.le_of_ble_eq_true rfl)) (Nat.le_trans h2 (Nat.le_of_ble_eq_true rfl)) (fun r_9 xw_10 hx_11 => ?_)
  refine k_pop X dL_law_k74.2.2.1.1 rfl ?_
  refine k_aload_n X dL_law_k74.2.2.1.2 2 rfl ?_
  refine k_aload_n X dL_law_k74.2.2.2.1 4 rfl ?_
  refine k_iload X dL_law_k74.2.2.2.2 0 rfl ?_
  refine k_iconst (v := 1) X dL_law_k75.1.1.1 ic_1 ?_
  refine k_iadd X dL_law_k75.1.1.2 ?_
  refine k_to z_1 ez_1.symm ?_
  refine k_sld X hX hbl hbA dL_law_k75.1.2.1 (by rw [vp_in_iff]; have := iv_3; omega) ?_
  refine k_to a_4 ea_4.symm ?_
  refine k_aload_n X dL_law_k75.1.2.2.1 4 rfl ?_
  refine k_iload X dL_law_k75.1.2.2.2 0 rfl ?_
  refine k_iconst (v := 2) X dL_law_k75.2.1.1 ic_2 ?_
  refine k_iadd X dL_law_k75.2.1.2.1 ?_
  refine k_to z_5 ez_5.symm ?_
  refine k_sld X hX hbl hbA dL_law_k75.2.1.2.2 (by rw [vp_in_iff]; have := iv_7; omega) ?_
  refine k_to a_8 ea_8.symm ?_
  refine lm_pays (st := []) a_4 a_8 X hm dL_law_k75.2.2.1 mw1265 (Nat.le_of_ble_eq_true rfl) (Nat.le_of_ble_eq_true rfl) (Nat.le_of_ble_eq_true rfl) (Nat.le_trans h1 (Nat.le_of_ble_eq_true rfl)) (Nat.le_trans h2 (Nat.le_of_ble_eq_true rfl)) (fun r_12 mw_13 hm_14 => ?_)
  refine k_pop X dL_law_k75.2.2.2.1 rfl ?_
  refine k_goto 2062 X dL_law_k75.2.2.2.2 (jp_e rfl) ?_
  exact kk _ _ _ _ _ _ _ _ _ _ _ _ _ _ _ _ _ _ _ _ _ _ _ _ _ _ _ _ _ _ _ _ _ _ _ _ _ _ _ _ hx_11 hm_14 hR

theorem dL_law_k76 : ((((dD cL_law 1513 (.aload_n 1) 1 ∧ dD cL_law 1514 (.aload_n 0) 1) ∧ (dD cL_law 1515 (.iload 4) 2 ∧ dD cL_law 1517 (.iconst 1) 1)) ∧ ((dD cL_law 1518 .iadd 1 ∧ dD cL_law 1519 .iaload 1) ∧ (dD cL_law 1520 (.aload_n 0) 1 ∧ dD cL_law 1521 (.iload 4) 2))) ∧ (((dD cL_law 1523 (.iconst 2) 1 ∧ dD cL_law 1524 .iadd 1) ∧ (dD cL_law 1525 .iaload 1 ∧ dD cL_law 1526 (.aload_n 0) 1)) ∧ ((dD cL_law 1527 (.iload 4) 2 ∧ dD cL_law 1529 (.iconst 3) 1) ∧ (dD cL_law 1530 .iadd 1 ∧ dD cL_law 1531 .iaload 1)))) := dkA16 (by decide +kernel)
theorem dL_law_k77 : ((((dD cL_law 1532 (.ifCond .eq 7) 3 ∧ dD cL_law 1535 (.iconst 1) 1) ∧ (dD cL_law 1536 (.goto 4) 3 ∧ dD cL_law 1539 (.iconst 0) 1)) ∧ ((dD cL_law 1540 (.invokevirtual 172) 3 ∧ dD cL_law 1543 .pop2 1) ∧ (dD cL_law 1544 (.aload_n 2) 1 ∧ dD cL_law 1545 (.aload_n 0) 1))) ∧ (((dD cL_law 1546 (.iload 4) 2 ∧ dD cL_law 1548 (.iconst 1) 1) ∧ (dD cL_law 1549 .iadd 1 ∧ dD cL_law 1550 .iaload 1)) ∧ ((dD cL_law 1551 (.aload_n 0) 1 ∧ dD cL_law 1552 (.iload 4) 2) ∧ (dD cL_law 1554 (.iconst 2) 1 ∧ dD cL_law 1555 .iadd 1)))) := dkA16 (by decide +kernel)
theorem dL_law_k78 : (((dD cL_law 1556 .iaload 1 ∧ (dD cL_law 1557 (.aload_n 0) 1 ∧ dD cL_law 1558 (.iload 4) 2)) ∧ (dD cL_law 1560 (.iconst 3) 1 ∧ (dD cL_law 1561 .iadd 1 ∧ dD cL_law 1562 .iaload 1))) ∧ ((dD cL_law 1563 (.ifCond .eq 7) 3 ∧ (dD cL_law 1566 (.iconst 1) 1 ∧ dD cL_law 1567 (.goto 4) 3)) ∧ ((dD cL_law 1570 (.iconst 0) 1 ∧ dD cL_law 1571 (.invokevirtual 175) 3) ∧ (dD cL_law 1574 .pop2 1 ∧ dD cL_law 1575 (.goto 487) 3)))) := dkA13 (by decide +kernel)
set_option maxHeartbeats 4000000 in
set_option maxRecDepth 100000 in
theorem law_c37 {p : Program} {l : Launch} {e : Env} {s : State} {m : MethodId} {below : List Frame} {meth : Method} {c : Code} {A : Nat → Prop} {g : Gx} {b L : Nat} {xs : Nat → Int32} {h0 mo lo n1 n2 : Nat} {fo : Nat → Int64} {u4 : Int32} {xtpd : Int32} {tpf : Nat → Int32} {yhnf : Nat → Int32} {yhtn : Int32} {yhtf : Nat → Int32} {yhjn : Int32} {yhjf : Nat → Int32} {yhmn : Int32} {yhmf : Nat → Int32} {yhbn : Int32} {yhbf : Nat → Int32} {yhsn : Int32} {yhsf : Nat → Int32} {yhcn : Int32} {yhcf : Nat → Int32} {zrn : Int32} {zmn : Int32} {zwn : Int32} {zpn : Int32} {zmd : Int32} {ztr : Int32} {zrf : Nat → Int32} {zmf : Nat → Int32} {zwf : Nat → Int32} {zpf : Nat → Int32} {kac : Int32} {knx : Int32} {kim : Int32} {cf : Nat → SC} {m_taped : Int32} {d_tape : Nat → Int32} {d_r : Nat → Int32} {d_st : Nat → Int32} {d_undone : Nat → Int32} {d_kept : Nat → Int32} {m_undos : Int32} {m_images : Int32} {m_hasHouse : Int32} {xw mw : va_W} (X : Cx p s m meth c #[Value.ref b] cL_law 7 RL A g) (hX : va_X b L xs s s.heap) (hbl : b < s.heap.size) (hbA : ¬ A b) (hi : 0 ≤ u4.toInt ∧ u4.toInt + 6 ≤ (L : Int)) (hL : L ≤ 3072) (h1 : n1 ≤ 601023) (h2 : n2 ≤ 7293028) (hlt : l.stackTraces = false) (hZ : kZ A s s.heap) (htsE : ∀ w ∈ wsE, w.before #[Value.ref b] s = true) (hx : XW g h0 xtpd tpf yhnf yhtn yhtf yhjn yhjf yhmn yhmf yhbn yhbf yhsn yhsf yhcn yhcf zrn zmn zwn zpn zmd ztr zrf zmf zwf zpf kac knx kim cf xw) (hm : MW g mo m_taped d_tape d_r d_st d_undone d_kept m_undos m_images m_hasHouse mw) (hR : LR xtpd tpf yhnf yhtn yhtf yhjn yhjf yhmn yhmf yhbn yhbf yhsn yhsf yhcn yhcf zrn zmn zwn zpn zmd ztr zrf zmf zwf zpf kac knx kim cf m_taped d_tape d_r d_st d_undone d_kept m_undos m_images m_hasHouse) (kk : ∀ (xtpd_2 : Int32) (tpf_2 : Nat → Int32) (yhnf_2 : Nat → Int32) (yhtn_2 : Int32) (yhtf_2 : Nat → Int32) (yhjn_2 : Int32) (yhjf_2 : Nat → Int32) (yhmn_2 : Int32) (yhmf_2 : Nat → Int32) (yhbn_2 : Int32) (yhbf_2 : Nat → Int32) (yhsn_2 : Int32) (yhsf_2 : Nat → Int32) (yhcn_2 : Int32) (yhcf_2 : Nat → Int32) (zrn_2 : Int32) (zmn_2 : Int32) (zwn_2 : Int32) (zpn_2 : Int32) (zmd_2 : Int32) (ztr_2 : Int32) (zrf_2 : Nat → Int32) (zmf_2 : Nat → Int32) (zwf_2 : Nat → Int32) (zpf_2 : Nat → Int32) (kac_2 : Int32) (knx_2 : Int32) (kim_2 : Int32) (cf_2 : Nat → SC) (m_taped_2 : Int32) (d_tape_2 : Nat → Int32) (d_r_2 : Nat → Int32) (d_st_2 : Nat → Int32) (d_undone_2 : Nat → Int32) (d_kept_2 : Nat → Int32) (m_undos_2 : Int32) (m_images_2 : Int32) (m_hasHouse_2 : Int32) (xw2 mw2 : va_W), XW g h0 xtpd_2 tpf_2 yhnf_2 yhtn_2 yhtf_2 yhjn_2 yhjf_2 yhmn_2 yhmf_2 yhbn_2 yhbf_2 yhsn_2 yhsf_2 yhcn_2 yhcf_2 zrn_2 zmn_2 zwn_2 zpn_2 zmd_2 ztr_2 zrf_2 zmf_2 zwf_2 zpf_2 kac_2 knx_2 kim_2 cf_2 xw2 → MW g mo m_taped_2 d_tape_2 d_r_2 d_st_2 d_undone_2 d_kept_2 m_undos_2 m_images_2 m_hasHouse_2 mw2 → LR xtpd_2 tpf_2 yhnf_2 yhtn_2 yhtf_2 yhjn_2 yhjf_2 yhmn_2 yhmf_2 yhbn_2 yhbf_2 yhsn_2 yhsf_2 yhcn_2 yhcf_2 zrn_2 zmn_2 zwn_2 zpn_2 zmd_2 ztr_2 zrf_2 zmf_2 zwf_2 zpf_2 kac_2 knx_2 kim_2 cf_2 m_taped_2 d_tape_2 d_r_2 d_st_2 d_undone_2 d_kept_2 m_undos_2 m_images_2 m_hasHouse_2 → Wk p l e room_1 s m #[Value.ref b] below meth c (lw_Z below #[Value.ref b] s) A g 7 n1 n2 (xw2 ++ (mw2 ++ [(cAJ g lo 1 fo)])) [(4, .int u4), (3, .ref lo), (2, .ref mo), (1, .ref h0), (0, .ref b)] 2062 []) : Wk p l e room_1 s m #[Value.ref b] below meth c (lw_Z below #[Value.ref b] s) A g 7 n1 n2 (xw ++ (mw ++ [(cAJ g lo 1 fo)])) [(4, .int u4), (3, .ref lo), (2, .ref mo), (1, .ref h0), (0, .ref b)] 1513 [] := by
  have hiv : IV u4 0 3066 := ⟨hi.1, by omega⟩
  refine k_aload_n X dL_law_k76.1.1.1.1 3 rfl ?_
  refine k_aload_n X dL_law_k76.1.1.1.2 4 rfl ?_
  refine k_iload X dL_law_k76.1.1.2.1 0 rfl ?_
  refine k_iconst (v := 1) X dL_law_k76.1.1.2.2 ic_1 ?_
  refine k_iadd X dL_law_k76.1.2.1.1 ?_
  refine k_nm (fun z_1 ez_1 => ?_)
  have i_2 : z_1.toInt = u4.toInt + 1 := in_add ez_1 hiv iq_1_1_1 (zle_e rfl) (zle_e rfl)
  have iv_3 : IV z_1 1 3067 := by have := hiv; have := iq_1_1_1; rw [IV, i_2]; omega
  refine k_sld X hX hbl hbA dL_law_k76.1.2.1.2 (by rw [vp_in_iff]; have := iv_3; omega) ?_
  refine k_nm (fun a_4 ea_4 => ?_)
  refine k_aload_n X dL_law_k76.1.2.2.1 4 rfl ?_
  refine k_iload X dL_law_k76.1.2.2.2 0 rfl ?_
  refine k_iconst (v := 2) X dL_law_k76.2.1.1.1 ic_2 ?_
  refine k_iadd X dL_law_k76.2.1.1.2 ?_
  refine k_nm (fun z_5 ez_5 => ?_)
  have i_6 : z_5.toInt = u4.toInt + 2 := in_add ez_5 hiv iq_2_2_2 (zle_e rfl) (zle_e rfl)
  have iv_7 : IV z_5 2 3068 := by have := hiv; have := iq_2_2_2; rw [IV, i_6]; omega
  refine k_sld X hX hbl hbA dL_law_k76.2.1.2.1 (by rw [vp_in_iff]; have := iv_7; omega) ?_
  refine k_nm (fun a_8 ea_8 => ?_)
  refine k_aload_n X dL_law_k76.2.1.2.2 4 rfl ?_
  refine k_iload X dL_law_k76.2.2.1.1 0 rfl ?_
  refine k_iconst (v := 3) X dL_law_k76.2.2.1.2 ic_3 ?_
  refine k_iadd X dL_law_k76.2.2.2.1 ?_
  refine k_nm (fun z_9 ez_9 => ?_)
  have i_10 : z_9.toInt = u4.toInt + 3 := in_add ez_9 hiv iq_3_3_3 (zle_e rfl) (zle_e rfl)
  have iv_11 : IV z_9 3 3069 := by have := hiv; have := iq_3_3_3; rw [IV, i_10]; omega
  refine k_sld X hX hbl hbA dL_law_k76.2.2.2.2 (by rw [vp_in_iff]; have := iv_11; omega) ?_
  refine k_nm (fun a_12 ea_12 => ?_)
  refine k_if_eq 1539 X dL_law_k77.1.1.1.1 (jp_e rfl) (fun h_13 => ?_) (fun h_13 => ?_)
  · skip
    have iv_14 : IV a_12 0 0 := iv_meet (iv_any a_12) (iv_e h_13 iq_0_0_0) (zle_o rfl) (zle_o rfl)
    refine k_iconst (v := 0) X dL_law_k77.1.1.2.2 ic_0 ?_
    refine lx_wears (st := []) a_4 a_8 0 X hx dL_law_k77.1.2.1.1 mw1270 (Nat.le_of_ble_eq_true rfl) (Nat.le_of_ble_eq_true rfl) (Nat.le_of_ble_eq_true rfl) (Nat.le_trans h1 (Nat.le_of_ble_eq_true rfl)) (Nat.le_trans h2 (Nat.le_of_ble_eq_true rfl)) (fun r_15 xw_16 hx_17 => ?_)
    refine k_pop2 X dL_law_k77.1.2.1.2 rfl ?_
    refine k_aload_n X dL_law_k77.1.2.2.1 2 rfl ?_
    refine k_aload_n X dL_law_k77.1.2.2.2 4 rfl ?_
    refine k_iload X dL_law_k77.2.1.1.1 0 rfl ?_
    refine k_iconst (v := 1) X dL_law_k77.2.1.1.2 ic_1 ?_
    refine k_iadd X dL_law_k77.2.1.2.1 ?_
    refine k_to z_1 ez_1.symm ?_
    refine k_sld X hX hbl hbA dL_law_k77.2.1.2.2 (by rw [vp_in_iff]; have := iv_3; omega) ?_
    refine k_to a_4 ea_4.symm ?_
    refine k_aload_n X dL_law_k77.2.2.1.1 4 rfl ?_
    refine k_iload X dL_law_k77.2.2.1.2 0 rfl ?_
    refine k_iconst (v := 2) X dL_law_k77.2.2.2.1 ic_2 ?_
    refine k_iadd X dL_law_k77.2.2.2.2 ?_
    refine k_to z_5 ez_5.symm ?_
    refine k_sld X hX hbl hbA dL_law_k78.1.1.1 (by rw [vp_in_iff]; have := iv_7; omega) ?_
    refine k_to a_8 ea_8.symm ?_
    refine k_aload_n X dL_law_k78.1.1.2.1 4 rfl ?_
    refine k_iload X dL_law_k78.1.1.2.2 0 rfl ?_
    refine k_iconst (v := 3) X dL_law_k78.1.2.1 ic_3 ?_
    refine k_iadd X dL_law_k78.1.2.2.1 ?_
    refine k_to z_9 ez_9.symm ?_
    refine k_sld X hX hbl hbA dL_law_k78.1.2.2.2 (by rw [vp_in_iff]; have := iv_11; omega) ?_
    refine k_to a_12 ea_12.symm ?_
    refine k_if_eq 1570 X dL_law_k78.2.1.1 (jp_e rfl) (fun h_18 => ?_) (fun h_18 => absurd h_13 h_18)
    refine k_iconst (v := 0) X dL_law_k78.2.2.1.1 ic_0 ?_
    refine lm_wears (st := []) a_4 a_8 0 X hm dL_law_k78.2.2.1.2 mw1275 (Nat.le_of_ble_eq_true rfl) (Nat.le_of_ble_eq_true rfl) (Nat.le_of_ble_eq_true rfl) (Nat.le_trans h1 (Nat.le_of_ble_eq_true rfl)) (Nat.le_trans h2 (Nat.le_of_ble_eq_true rfl)) (fun r_19 mw_20 hm_21 => ?_)
    refine k_pop2 X dL_law_k78.2.2.2.1 rfl ?_
    refine k_goto 2062 X dL_law_k78.2.2.2.2 (jp_e rfl) ?_
    exact kk _ _ _ _ _ _ _ _ _ _ _ _ _ _ _ _ _ _ _ _ _ _ _ _ _ _ _ _ _ _ _ _ _ _ _ _ _ _ _ _ hx_17 hm_21 hR
  · skip
    refine k_iconst (v := 1) X dL_law_k77.1.1.1.2 ic_1 ?_
    refine k_goto 1540 X dL_law_k77.1.1.2.1 (jp_e rfl) ?_
    refine lx_wears (st := []) a_4 a_8 1 X hx dL_law_k77.1.2.1.1 mw1270 (Nat.le_of_ble_eq_true rfl) (Nat.le_of_ble_eq_true rfl) (Nat.le_of_ble_eq_true rfl) (Nat.le_trans h1 (Nat.le_of_ble_eq_true rfl)) (Nat.le_trans h2 (Nat.le_of_ble_eq_true rfl)) (fun r_22 xw_23 hx_24 => ?_)
    refine k_pop2 X dL_law_k77.1.2.1.2 rfl ?_
    refine k_aload_n X dL_law_k77.1.2.2.1 2 rfl ?_
    refine k_aload_n X dL_law_k77.1.2.2.2 4 rfl ?_
    refine k_iload X dL_law_k77.2.1.1.1 0 rfl ?_
    refine k_iconst (v := 1) X dL_law_k77.2.1.1.2 ic_1 ?_
    refine k_iadd X dL_law_k77.2.1.2.1 ?_
    refine k_to z_1 ez_1.symm ?_
    refine k_sld X hX hbl hbA dL_law_k77.2.1.2.2 (by rw [vp_in_iff]; have := iv_3; omega) ?_
    refine k_to a_4 ea_4.symm ?_
    refine k_aload_n X dL_law_k77.2.2.1.1 4 rfl ?_
    refine k_iload X dL_law_k77.2.2.1.2 0 rfl ?_
    refine k_iconst (v := 2) X dL_law_k77.2.2.2.1 ic_2 ?_
    refine k_iadd X dL_law_k77.2.2.2.2 ?_
    refine k_to z_5 ez_5.symm ?_
    refine k_sld X hX hbl hbA dL_law_k78.1.1.1 (by rw [vp_in_iff]; have := iv_7; omega) ?_
    refine k_to a_8 ea_8.symm ?_
    refine k_aload_n X dL_law_k78.1.1.2.1 4 rfl ?_
    refine k_iload X dL_law_k78.1.1.2.2 0 rfl ?_
    refine k_iconst (v := 3) X dL_law_k78.1.2.1 ic_3 ?_
    refine k_iadd X dL_law_k78.1.2.2.1 ?_
    refine k_to z_9 ez_9.symm ?_
    refine k_sld X hX hbl hbA dL_law_k78.1.2.2.2 (by rw [vp_in_iff]; have := iv_11; omega) ?_
    refine k_to a_12 ea_12.symm ?_
    refine k_if_eq 1570 X dL_law_k78.2.1.1 (jp_e rfl) (fun h_25 => absurd h_25 h_13) (fun h_25 => ?_)
    refine k_iconst (v := 1) X dL_law_k78.2.1.2.1 ic_1 ?_
    refine k_goto 1571 X dL_law_k78.2.1.2.2 (jp_e rfl) ?_
    refine lm_wears (st := []) a_4 a_8 1 X hm dL_law_k78.2.2.1.2 mw1275 (Nat.le_of_ble_eq_true rfl) (Nat.le_of_ble_eq_true rfl) (Nat.le_of_ble_eq_true rfl) (Nat.le_trans h1 (Nat.le_of_ble_eq_true rfl)) (Nat.le_trans h2 (Nat.le_of_ble_eq_true rfl)) (fun r_26 mw_27 hm_28 => ?_)
    refine k_pop2 X dL_law_k78.2.2.2.1 rfl ?_
    refine k_goto 2062 X dL_law_k78.2.2.2.2 (jp_e rfl) ?_
    exact kk _ _ _ _ _ _ _ _ _ _ _ _ _ _ _ _ _ _ _ _ _ _ _ _ _ _ _ _ _ _ _ _ _ _ _ _ _ _ _ _ hx_24 hm_28 hR

theorem dL_law_k79 : ((((dD cL_law 1578 (.aload_n 1) 1 ∧ dD cL_law 1579 (.aload_n 0) 1) ∧ (dD cL_law 1580 (.iload 4) 2 ∧ dD cL_law 1582 (.iconst 1) 1)) ∧ ((dD cL_law 1583 .iadd 1 ∧ dD cL_law 1584 .iaload 1) ∧ (dD cL_law 1585 (.aload_n 0) 1 ∧ dD cL_law 1586 (.iload 4) 2))) ∧ (((dD cL_law 1588 (.iconst 2) 1 ∧ dD cL_law 1589 .iadd 1) ∧ (dD cL_law 1590 .iaload 1 ∧ dD cL_law 1591 (.invokevirtual 176) 3)) ∧ ((dD cL_law 1594 .pop 1 ∧ dD cL_law 1595 (.aload_n 2) 1) ∧ (dD cL_law 1596 (.aload_n 0) 1 ∧ dD cL_law 1597 (.iload 4) 2)))) := dkA16 (by decide +kernel)
theorem dL_law_k80 : (((dD cL_law 1599 (.iconst 1) 1 ∧ dD cL_law 1600 .iadd 1) ∧ (dD cL_law 1601 .iaload 1 ∧ (dD cL_law 1602 (.aload_n 0) 1 ∧ dD cL_law 1603 (.iload 4) 2))) ∧ ((dD cL_law 1605 (.iconst 2) 1 ∧ (dD cL_law 1606 .iadd 1 ∧ dD cL_law 1607 .iaload 1)) ∧ (dD cL_law 1608 (.invokevirtual 179) 3 ∧ (dD cL_law 1611 .pop 1 ∧ dD cL_law 1612 (.goto 450) 3)))) := dkA11 (by decide +kernel)
set_option maxHeartbeats 4000000 in
set_option maxRecDepth 100000 in
theorem law_c38 {p : Program} {l : Launch} {e : Env} {s : State} {m : MethodId} {below : List Frame} {meth : Method} {c : Code} {A : Nat → Prop} {g : Gx} {b L : Nat} {xs : Nat → Int32} {h0 mo lo n1 n2 : Nat} {fo : Nat → Int64} {u4 : Int32} {xtpd : Int32} {tpf : Nat → Int32} {yhnf : Nat → Int32} {yhtn : Int32} {yhtf : Nat → Int32} {yhjn : Int32} {yhjf : Nat → Int32} {yhmn : Int32} {yhmf : Nat → Int32} {yhbn : Int32} {yhbf : Nat → Int32} {yhsn : Int32} {yhsf : Nat → Int32} {yhcn : Int32} {yhcf : Nat → Int32} {zrn : Int32} {zmn : Int32} {zwn : Int32} {zpn : Int32} {zmd : Int32} {ztr : Int32} {zrf : Nat → Int32} {zmf : Nat → Int32} {zwf : Nat → Int32} {zpf : Nat → Int32} {kac : Int32} {knx : Int32} {kim : Int32} {cf : Nat → SC} {m_taped : Int32} {d_tape : Nat → Int32} {d_r : Nat → Int32} {d_st : Nat → Int32} {d_undone : Nat → Int32} {d_kept : Nat → Int32} {m_undos : Int32} {m_images : Int32} {m_hasHouse : Int32} {xw mw : va_W} (X : Cx p s m meth c #[Value.ref b] cL_law 7 RL A g) (hX : va_X b L xs s s.heap) (hbl : b < s.heap.size) (hbA : ¬ A b) (hi : 0 ≤ u4.toInt ∧ u4.toInt + 6 ≤ (L : Int)) (hL : L ≤ 3072) (h1 : n1 ≤ 601023) (h2 : n2 ≤ 7293028) (hlt : l.stackTraces = false) (hZ : kZ A s s.heap) (htsE : ∀ w ∈ wsE, w.before #[Value.ref b] s = true) (hx : XW g h0 xtpd tpf yhnf yhtn yhtf yhjn yhjf yhmn yhmf yhbn yhbf yhsn yhsf yhcn yhcf zrn zmn zwn zpn zmd ztr zrf zmf zwf zpf kac knx kim cf xw) (hm : MW g mo m_taped d_tape d_r d_st d_undone d_kept m_undos m_images m_hasHouse mw) (hR : LR xtpd tpf yhnf yhtn yhtf yhjn yhjf yhmn yhmf yhbn yhbf yhsn yhsf yhcn yhcf zrn zmn zwn zpn zmd ztr zrf zmf zwf zpf kac knx kim cf m_taped d_tape d_r d_st d_undone d_kept m_undos m_images m_hasHouse) (kk : ∀ (xtpd_2 : Int32) (tpf_2 : Nat → Int32) (yhnf_2 : Nat → Int32) (yhtn_2 : Int32) (yhtf_2 : Nat → Int32) (yhjn_2 : Int32) (yhjf_2 : Nat → Int32) (yhmn_2 : Int32) (yhmf_2 : Nat → Int32) (yhbn_2 : Int32) (yhbf_2 : Nat → Int32) (yhsn_2 : Int32) (yhsf_2 : Nat → Int32) (yhcn_2 : Int32) (yhcf_2 : Nat → Int32) (zrn_2 : Int32) (zmn_2 : Int32) (zwn_2 : Int32) (zpn_2 : Int32) (zmd_2 : Int32) (ztr_2 : Int32) (zrf_2 : Nat → Int32) (zmf_2 : Nat → Int32) (zwf_2 : Nat → Int32) (zpf_2 : Nat → Int32) (kac_2 : Int32) (knx_2 : Int32) (kim_2 : Int32) (cf_2 : Nat → SC) (m_taped_2 : Int32) (d_tape_2 : Nat → Int32) (d_r_2 : Nat → Int32) (d_st_2 : Nat → Int32) (d_undone_2 : Nat → Int32) (d_kept_2 : Nat → Int32) (m_undos_2 : Int32) (m_images_2 : Int32) (m_hasHouse_2 : Int32) (xw2 mw2 : va_W), XW g h0 xtpd_2 tpf_2 yhnf_2 yhtn_2 yhtf_2 yhjn_2 yhjf_2 yhmn_2 yhmf_2 yhbn_2 yhbf_2 yhsn_2 yhsf_2 yhcn_2 yhcf_2 zrn_2 zmn_2 zwn_2 zpn_2 zmd_2 ztr_2 zrf_2 zmf_2 zwf_2 zpf_2 kac_2 knx_2 kim_2 cf_2 xw2 → MW g mo m_taped_2 d_tape_2 d_r_2 d_st_2 d_undone_2 d_kept_2 m_undos_2 m_images_2 m_hasHouse_2 mw2 → LR xtpd_2 tpf_2 yhnf_2 yhtn_2 yhtf_2 yhjn_2 yhjf_2 yhmn_2 yhmf_2 yhbn_2 yhbf_2 yhsn_2 yhsf_2 yhcn_2 yhcf_2 zrn_2 zmn_2 zwn_2 zpn_2 zmd_2 ztr_2 zrf_2 zmf_2 zwf_2 zpf_2 kac_2 knx_2 kim_2 cf_2 m_taped_2 d_tape_2 d_r_2 d_st_2 d_undone_2 d_kept_2 m_undos_2 m_images_2 m_hasHouse_2 → Wk p l e room_1 s m #[Value.ref b] below meth c (lw_Z below #[Value.ref b] s) A g 7 n1 n2 (xw2 ++ (mw2 ++ [(cAJ g lo 1 fo)])) [(4, .int u4), (3, .ref lo), (2, .ref mo), (1, .ref h0), (0, .ref b)] 2062 []) : Wk p l e room_1 s m #[Value.ref b] below meth c (lw_Z below #[Value.ref b] s) A g 7 n1 n2 (xw ++ (mw ++ [(cAJ g lo 1 fo)])) [(4, .int u4), (3, .ref lo), (2, .ref mo), (1, .ref h0), (0, .ref b)] 1578 [] := by
  have hiv : IV u4 0 3066 := ⟨hi.1, by omega⟩
  refine k_aload_n X dL_law_k79.1.1.1.1 3 rfl ?_
  refine k_aload_n X dL_law_k79.1.1.1.2 4 rfl ?_
  refine k_iload X dL_law_k79.1.1.2.1 0 rfl ?_
  refine k_iconst (v := 1) X dL_law_k79.1.1.2.2 ic_1 ?_
  refine k_iadd X dL_law_k79.1.2.1.1 ?_
  refine k_nm (fun z_1 ez_1 => ?_)
  have i_2 : z_1.toInt = u4.toInt + 1 := in_add ez_1 hiv iq_1_1_1 (zle_e rfl) (zle_e rfl)
  have iv_3 : IV z_1 1 3067 := by have := hiv; have := iq_1_1_1; rw [IV, i_2]; omega
  refine k_sld X hX hbl hbA dL_law_k79.1.2.1.2 (by rw [vp_in_iff]; have := iv_3; omega) ?_
  refine k_nm (fun a_4 ea_4 => ?_)
  refine k_aload_n X dL_law_k79.1.2.2.1 4 rfl ?_
  refine k_iload X dL_law_k79.1.2.2.2 0 rfl ?_
  refine k_iconst (v := 2) X dL_law_k79.2.1.1.1 ic_2 ?_
  refine k_iadd X dL_law_k79.2.1.1.2 ?_
  refine k_nm (fun z_5 ez_5 => ?_)
  have i_6 : z_5.toInt = u4.toInt + 2 := in_add ez_5 hiv iq_2_2_2 (zle_e rfl) (zle_e rfl)
  have iv_7 : IV z_5 2 3068 := by have := hiv; have := iq_2_2_2; rw [IV, i_6]; omega
  refine k_sld X hX hbl hbA dL_law_k79.2.1.2.1 (by rw [vp_in_iff]; have := iv_7; omega) ?_
  refine k_nm (fun a_8 ea_8 => ?_)
  refine lx_apart (st := []) a_4 a_8 X hx dL_law_k79.2.1.2.2 mw1280 (Nat.le_of_ble_eq_true rfl) (Nat.le_of_ble_eq_true rfl) (Nat.le_of_ble_eq_true rfl) (Nat.le_trans h1 (Nat.le_of_ble_eq_true rfl)) (Nat.le_trans h2 (Nat.le_of_ble_eq_true rfl)) (fun r_9 xw_10 hx_11 => ?_)
  refine k_pop X dL_law_k79.2.2.1.1 rfl ?_
  refine k_aload_n X dL_law_k79.2.2.1.2 2 rfl ?_
  refine k_aload_n X dL_law_k79.2.2.2.1 4 rfl ?_
  refine k_iload X dL_law_k79.2.2.2.2 0 rfl ?_
  refine k_iconst (v := 1) X dL_law_k80.1.1.1 ic_1 ?_
  refine k_iadd X dL_law_k80.1.1.2 ?_
  refine k_to z_1 ez_1.symm ?_
  refine k_sld X hX hbl hbA dL_law_k80.1.2.1 (by rw [vp_in_iff]; have := iv_3; omega) ?_
  refine k_to a_4 ea_4.symm ?_
  refine k_aload_n X dL_law_k80.1.2.2.1 4 rfl ?_
  refine k_iload X dL_law_k80.1.2.2.2 0 rfl ?_
  refine k_iconst (v := 2) X dL_law_k80.2.1.1 ic_2 ?_
  refine k_iadd X dL_law_k80.2.1.2.1 ?_
  refine k_to z_5 ez_5.symm ?_
  refine k_sld X hX hbl hbA dL_law_k80.2.1.2.2 (by rw [vp_in_iff]; have := iv_7; omega) ?_
  refine k_to a_8 ea_8.symm ?_
  refine lm_apart (st := []) a_4 a_8 X hm dL_law_k80.2.2.1 mw1311 (Nat.le_of_ble_eq_true rfl) (Nat.le_of_ble_eq_true rfl) (Nat.le_of_ble_eq_true rfl) (Nat.le_trans h1 (Nat.le_of_ble_eq_true rfl)) (Nat.le_trans h2 (Nat.le_of_ble_eq_true rfl)) (fun r_12 mw_13 hm_14 => ?_)
  refine k_pop X dL_law_k80.2.2.2.1 rfl ?_
  refine k_goto 2062 X dL_law_k80.2.2.2.2 (jp_e rfl) ?_
  exact kk _ _ _ _ _ _ _ _ _ _ _ _ _ _ _ _ _ _ _ _ _ _ _ _ _ _ _ _ _ _ _ _ _ _ _ _ _ _ _ _ hx_11 hm_14 hR

theorem dL_law_k81 : ((((dD cL_law 1615 (.aload_n 1) 1 ∧ dD cL_law 1616 (.aload_n 0) 1) ∧ (dD cL_law 1617 (.iload 4) 2 ∧ dD cL_law 1619 (.iconst 1) 1)) ∧ ((dD cL_law 1620 .iadd 1 ∧ dD cL_law 1621 .iaload 1) ∧ (dD cL_law 1622 (.aload_n 0) 1 ∧ dD cL_law 1623 (.iload 4) 2))) ∧ (((dD cL_law 1625 (.iconst 2) 1 ∧ dD cL_law 1626 .iadd 1) ∧ (dD cL_law 1627 .iaload 1 ∧ dD cL_law 1628 (.aload_n 0) 1)) ∧ ((dD cL_law 1629 (.iload 4) 2 ∧ dD cL_law 1631 (.iconst 3) 1) ∧ (dD cL_law 1632 .iadd 1 ∧ dD cL_law 1633 .iaload 1)))) := dkA16 (by decide +kernel)
theorem dL_law_k82 : ((((dD cL_law 1634 (.invokevirtual 180) 3 ∧ dD cL_law 1637 .pop 1) ∧ (dD cL_law 1638 (.aload_n 2) 1 ∧ dD cL_law 1639 (.aload_n 0) 1)) ∧ ((dD cL_law 1640 (.iload 4) 2 ∧ dD cL_law 1642 (.iconst 1) 1) ∧ (dD cL_law 1643 .iadd 1 ∧ dD cL_law 1644 .iaload 1))) ∧ (((dD cL_law 1645 (.aload_n 0) 1 ∧ dD cL_law 1646 (.iload 4) 2) ∧ (dD cL_law 1648 (.iconst 2) 1 ∧ dD cL_law 1649 .iadd 1)) ∧ ((dD cL_law 1650 .iaload 1 ∧ dD cL_law 1651 (.aload_n 0) 1) ∧ (dD cL_law 1652 (.iload 4) 2 ∧ dD cL_law 1654 (.iconst 3) 1)))) := dkA16 (by decide +kernel)
theorem dL_law_k83 : ((dD cL_law 1655 .iadd 1 ∧ dD cL_law 1656 .iaload 1) ∧ (dD cL_law 1657 (.invokevirtual 184) 3 ∧ (dD cL_law 1660 .pop 1 ∧ dD cL_law 1661 (.goto 401) 3))) := dkA5 (by decide +kernel)
set_option maxHeartbeats 4000000 in
set_option maxRecDepth 100000 in
theorem law_c39 {p : Program} {l : Launch} {e : Env} {s : State} {m : MethodId} {below : List Frame} {meth : Method} {c : Code} {A : Nat → Prop} {g : Gx} {b L : Nat} {xs : Nat → Int32} {h0 mo lo n1 n2 : Nat} {fo : Nat → Int64} {u4 : Int32} {xtpd : Int32} {tpf : Nat → Int32} {yhnf : Nat → Int32} {yhtn : Int32} {yhtf : Nat → Int32} {yhjn : Int32} {yhjf : Nat → Int32} {yhmn : Int32} {yhmf : Nat → Int32} {yhbn : Int32} {yhbf : Nat → Int32} {yhsn : Int32} {yhsf : Nat → Int32} {yhcn : Int32} {yhcf : Nat → Int32} {zrn : Int32} {zmn : Int32} {zwn : Int32} {zpn : Int32} {zmd : Int32} {ztr : Int32} {zrf : Nat → Int32} {zmf : Nat → Int32} {zwf : Nat → Int32} {zpf : Nat → Int32} {kac : Int32} {knx : Int32} {kim : Int32} {cf : Nat → SC} {m_taped : Int32} {d_tape : Nat → Int32} {d_r : Nat → Int32} {d_st : Nat → Int32} {d_undone : Nat → Int32} {d_kept : Nat → Int32} {m_undos : Int32} {m_images : Int32} {m_hasHouse : Int32} {xw mw : va_W} (X : Cx p s m meth c #[Value.ref b] cL_law 7 RL A g) (hX : va_X b L xs s s.heap) (hbl : b < s.heap.size) (hbA : ¬ A b) (hi : 0 ≤ u4.toInt ∧ u4.toInt + 6 ≤ (L : Int)) (hL : L ≤ 3072) (h1 : n1 ≤ 601023) (h2 : n2 ≤ 7293028) (hlt : l.stackTraces = false) (hZ : kZ A s s.heap) (htsE : ∀ w ∈ wsE, w.before #[Value.ref b] s = true) (hx : XW g h0 xtpd tpf yhnf yhtn yhtf yhjn yhjf yhmn yhmf yhbn yhbf yhsn yhsf yhcn yhcf zrn zmn zwn zpn zmd ztr zrf zmf zwf zpf kac knx kim cf xw) (hm : MW g mo m_taped d_tape d_r d_st d_undone d_kept m_undos m_images m_hasHouse mw) (hR : LR xtpd tpf yhnf yhtn yhtf yhjn yhjf yhmn yhmf yhbn yhbf yhsn yhsf yhcn yhcf zrn zmn zwn zpn zmd ztr zrf zmf zwf zpf kac knx kim cf m_taped d_tape d_r d_st d_undone d_kept m_undos m_images m_hasHouse) (kk : ∀ (xtpd_2 : Int32) (tpf_2 : Nat → Int32) (yhnf_2 : Nat → Int32) (yhtn_2 : Int32) (yhtf_2 : Nat → Int32) (yhjn_2 : Int32) (yhjf_2 : Nat → Int32) (yhmn_2 : Int32) (yhmf_2 : Nat → Int32) (yhbn_2 : Int32) (yhbf_2 : Nat → Int32) (yhsn_2 : Int32) (yhsf_2 : Nat → Int32) (yhcn_2 : Int32) (yhcf_2 : Nat → Int32) (zrn_2 : Int32) (zmn_2 : Int32) (zwn_2 : Int32) (zpn_2 : Int32) (zmd_2 : Int32) (ztr_2 : Int32) (zrf_2 : Nat → Int32) (zmf_2 : Nat → Int32) (zwf_2 : Nat → Int32) (zpf_2 : Nat → Int32) (kac_2 : Int32) (knx_2 : Int32) (kim_2 : Int32) (cf_2 : Nat → SC) (m_taped_2 : Int32) (d_tape_2 : Nat → Int32) (d_r_2 : Nat → Int32) (d_st_2 : Nat → Int32) (d_undone_2 : Nat → Int32) (d_kept_2 : Nat → Int32) (m_undos_2 : Int32) (m_images_2 : Int32) (m_hasHouse_2 : Int32) (xw2 mw2 : va_W), XW g h0 xtpd_2 tpf_2 yhnf_2 yhtn_2 yhtf_2 yhjn_2 yhjf_2 yhmn_2 yhmf_2 yhbn_2 yhbf_2 yhsn_2 yhsf_2 yhcn_2 yhcf_2 zrn_2 zmn_2 zwn_2 zpn_2 zmd_2 ztr_2 zrf_2 zmf_2 zwf_2 zpf_2 kac_2 knx_2 kim_2 cf_2 xw2 → MW g mo m_taped_2 d_tape_2 d_r_2 d_st_2 d_undone_2 d_kept_2 m_undos_2 m_images_2 m_hasHouse_2 mw2 → LR xtpd_2 tpf_2 yhnf_2 yhtn_2 yhtf_2 yhjn_2 yhjf_2 yhmn_2 yhmf_2 yhbn_2 yhbf_2 yhsn_2 yhsf_2 yhcn_2 yhcf_2 zrn_2 zmn_2 zwn_2 zpn_2 zmd_2 ztr_2 zrf_2 zmf_2 zwf_2 zpf_2 kac_2 knx_2 kim_2 cf_2 m_taped_2 d_tape_2 d_r_2 d_st_2 d_undone_2 d_kept_2 m_undos_2 m_images_2 m_hasHouse_2 → Wk p l e room_1 s m #[Value.ref b] below meth c (lw_Z below #[Value.ref b] s) A g 7 n1 n2 (xw2 ++ (mw2 ++ [(cAJ g lo 1 fo)])) [(4, .int u4), (3, .ref lo), (2, .ref mo), (1, .ref h0), (0, .ref b)] 2062 []) : Wk p l e room_1 s m #[Value.ref b] below meth c (lw_Z below #[Value.ref b] s) A g 7 n1 n2 (xw ++ (mw ++ [(cAJ g lo 1 fo)])) [(4, .int u4), (3, .ref lo), (2, .ref mo), (1, .ref h0), (0, .ref b)] 1615 [] := by
  have hiv : IV u4 0 3066 := ⟨hi.1, by omega⟩
  refine k_aload_n X dL_law_k81.1.1.1.1 3 rfl ?_
  refine k_aload_n X dL_law_k81.1.1.1.2 4 rfl ?_
  refine k_iload X dL_law_k81.1.1.2.1 0 rfl ?_
  refine k_iconst (v := 1) X dL_law_k81.1.1.2.2 ic_1 ?_
  refine k_iadd X dL_law_k81.1.2.1.1 ?_
  refine k_nm (fun z_1 ez_1 => ?_)
  have i_2 : z_1.toInt = u4.toInt + 1 := in_add ez_1 hiv iq_1_1_1 (zle_e rfl) (zle_e rfl)
  have iv_3 : IV z_1 1 3067 := by have := hiv; have := iq_1_1_1; rw [IV, i_2]; omega
  refine k_sld X hX hbl hbA dL_law_k81.1.2.1.2 (by rw [vp_in_iff]; have := iv_3; omega) ?_
  refine k_nm (fun a_4 ea_4 => ?_)
  refine k_aload_n X dL_law_k81.1.2.2.1 4 rfl ?_
  refine k_iload X dL_law_k81.1.2.2.2 0 rfl ?_
  refine k_iconst (v := 2) X dL_law_k81.2.1.1.1 ic_2 ?_
  refine k_iadd X dL_law_k81.2.1.1.2 ?_
  refine k_nm (fun z_5 ez_5 => ?_)
  have i_6 : z_5.toInt = u4.toInt + 2 := in_add ez_5 hiv iq_2_2_2 (zle_e rfl) (zle_e rfl)
  have iv_7 : IV z_5 2 3068 := by have := hiv; have := iq_2_2_2; rw [IV, i_6]; omega
  refine k_sld X hX hbl hbA dL_law_k81.2.1.2.1 (by rw [vp_in_iff]; have := iv_7; omega) ?_
  refine k_nm (fun a_8 ea_8 => ?_)
  refine k_aload_n X dL_law_k81.2.1.2.2 4 rfl ?_
  refine k_iload X dL_law_k81.2.2.1.1 0 rfl ?_
  refine k_iconst (v := 3) X dL_law_k81.2.2.1.2 ic_3 ?_
  refine k_iadd X dL_law_k81.2.2.2.1 ?_
  refine k_nm (fun z_9 ez_9 => ?_)
  have i_10 : z_9.toInt = u4.toInt + 3 := in_add ez_9 hiv iq_3_3_3 (zle_e rfl) (zle_e rfl)
  have iv_11 : IV z_9 3 3069 := by have := hiv; have := iq_3_3_3; rw [IV, i_10]; omega
  refine k_sld X hX hbl hbA dL_law_k81.2.2.2.2 (by rw [vp_in_iff]; have := iv_11; omega) ?_
  refine k_nm (fun a_12 ea_12 => ?_)
  refine lx_waits (st := []) a_4 a_8 a_12 X hx dL_law_k82.1.1.1.1 mw1327 (Nat.le_of_ble_eq_true rfl) (Nat.le_of_ble_eq_true rfl) (Nat.le_of_ble_eq_true rfl) (Nat.le_trans h1 (Nat.le_of_ble_eq_true rfl)) (Nat.le_trans h2 (Nat.le_of_ble_eq_true rfl)) (fun r_13 xw_14 hx_15 => ?_)
  refine k_pop X dL_law_k82.1.1.1.2 rfl ?_
  refine k_aload_n X dL_law_k82.1.1.2.1 2 rfl ?_
  refine k_aload_n X dL_law_k82.1.1.2.2 4 rfl ?_
  refine k_iload X dL_law_k82.1.2.1.1 0 rfl ?_
  refine k_iconst (v := 1) X dL_law_k82.1.2.1.2 ic_1 ?_
  refine k_iadd X dL_law_k82.1.2.2.1 ?_
  refine k_to z_1 ez_1.symm ?_
  refine k_sld X hX hbl hbA dL_law_k82.1.2.2.2 (by rw [vp_in_iff]; have := iv_3; omega) ?_
  refine k_to a_4 ea_4.symm ?_
  refine k_aload_n X dL_law_k82.2.1.1.1 4 rfl ?_
  refine k_iload X dL_law_k82.2.1.1.2 0 rfl ?_
  refine k_iconst (v := 2) X dL_law_k82.2.1.2.1 ic_2 ?_
  refine k_iadd X dL_law_k82.2.1.2.2 ?_
  refine k_to z_5 ez_5.symm ?_
  refine k_sld X hX hbl hbA dL_law_k82.2.2.1.1 (by rw [vp_in_iff]; have := iv_7; omega) ?_
  refine k_to a_8 ea_8.symm ?_
  refine k_aload_n X dL_law_k82.2.2.1.2 4 rfl ?_
  refine k_iload X dL_law_k82.2.2.2.1 0 rfl ?_
  refine k_iconst (v := 3) X dL_law_k82.2.2.2.2 ic_3 ?_
  refine k_iadd X dL_law_k83.1.1 ?_
  refine k_to z_9 ez_9.symm ?_
  refine k_sld X hX hbl hbA dL_law_k83.1.2 (by rw [vp_in_iff]; have := iv_11; omega) ?_
  refine k_to a_12 ea_12.symm ?_
  refine lm_waits (st := []) a_4 a_8 a_12 X hm dL_law_k83.2.1 mw1332 (Nat.le_of_ble_eq_true rfl) (Nat.le_of_ble_eq_true rfl) (Nat.le_of_ble_eq_true rfl) (Nat.le_trans h1 (Nat.le_of_ble_eq_true rfl)) (Nat.le_trans h2 (Nat.le_of_ble_eq_true rfl)) (fun r_16 mw_17 hm_18 => ?_)
  refine k_pop X dL_law_k83.2.2.1 rfl ?_
  refine k_goto 2062 X dL_law_k83.2.2.2 (jp_e rfl) ?_
  exact kk _ _ _ _ _ _ _ _ _ _ _ _ _ _ _ _ _ _ _ _ _ _ _ _ _ _ _ _ _ _ _ _ _ _ _ _ _ _ _ _ hx_15 hm_18 hR

theorem dL_law_k84 : ((((dD cL_law 1664 (.aload_n 1) 1 ∧ dD cL_law 1665 (.aload_n 0) 1) ∧ (dD cL_law 1666 (.iload 4) 2 ∧ dD cL_law 1668 (.iconst 1) 1)) ∧ ((dD cL_law 1669 .iadd 1 ∧ dD cL_law 1670 .iaload 1) ∧ (dD cL_law 1671 (.invokevirtual 185) 3 ∧ dD cL_law 1674 .pop 1))) ∧ (((dD cL_law 1675 (.aload_n 2) 1 ∧ dD cL_law 1676 (.aload_n 0) 1) ∧ (dD cL_law 1677 (.iload 4) 2 ∧ dD cL_law 1679 (.iconst 1) 1)) ∧ ((dD cL_law 1680 .iadd 1 ∧ dD cL_law 1681 .iaload 1) ∧ (dD cL_law 1682 (.invokevirtual 188) 3 ∧ dD cL_law 1685 .pop 1)))) := dkA16 (by decide +kernel)
theorem dL_law_k85 : dD cL_law 1686 (.goto 376) 3 := dkA1 (by decide +kernel)
set_option maxHeartbeats 4000000 in
set_option maxRecDepth 100000 in
theorem law_c40 {p : Program} {l : Launch} {e : Env} {s : State} {m : MethodId} {below : List Frame} {meth : Method} {c : Code} {A : Nat → Prop} {g : Gx} {b L : Nat} {xs : Nat → Int32} {h0 mo lo n1 n2 : Nat} {fo : Nat → Int64} {u4 : Int32} {xtpd : Int32} {tpf : Nat → Int32} {yhnf : Nat → Int32} {yhtn : Int32} {yhtf : Nat → Int32} {yhjn : Int32} {yhjf : Nat → Int32} {yhmn : Int32} {yhmf : Nat → Int32} {yhbn : Int32} {yhbf : Nat → Int32} {yhsn : Int32} {yhsf : Nat → Int32} {yhcn : Int32} {yhcf : Nat → Int32} {zrn : Int32} {zmn : Int32} {zwn : Int32} {zpn : Int32} {zmd : Int32} {ztr : Int32} {zrf : Nat → Int32} {zmf : Nat → Int32} {zwf : Nat → Int32} {zpf : Nat → Int32} {kac : Int32} {knx : Int32} {kim : Int32} {cf : Nat → SC} {m_taped : Int32} {d_tape : Nat → Int32} {d_r : Nat → Int32} {d_st : Nat → Int32} {d_undone : Nat → Int32} {d_kept : Nat → Int32} {m_undos : Int32} {m_images : Int32} {m_hasHouse : Int32} {xw mw : va_W} (X : Cx p s m meth c #[Value.ref b] cL_law 7 RL A g) (hX : va_X b L xs s s.heap) (hbl : b < s.heap.size) (hbA : ¬ A b) (hi : 0 ≤ u4.toInt ∧ u4.toInt + 6 ≤ (L : Int)) (hL : L ≤ 3072) (h1 : n1 ≤ 601023) (h2 : n2 ≤ 7293028) (hlt : l.stackTraces = false) (hZ : kZ A s s.heap) (htsE : ∀ w ∈ wsE, w.before #[Value.ref b] s = true) (hx : XW g h0 xtpd tpf yhnf yhtn yhtf yhjn yhjf yhmn yhmf yhbn yhbf yhsn yhsf yhcn yhcf zrn zmn zwn zpn zmd ztr zrf zmf zwf zpf kac knx kim cf xw) (hm : MW g mo m_taped d_tape d_r d_st d_undone d_kept m_undos m_images m_hasHouse mw) (hR : LR xtpd tpf yhnf yhtn yhtf yhjn yhjf yhmn yhmf yhbn yhbf yhsn yhsf yhcn yhcf zrn zmn zwn zpn zmd ztr zrf zmf zwf zpf kac knx kim cf m_taped d_tape d_r d_st d_undone d_kept m_undos m_images m_hasHouse) (kk : ∀ (xtpd_2 : Int32) (tpf_2 : Nat → Int32) (yhnf_2 : Nat → Int32) (yhtn_2 : Int32) (yhtf_2 : Nat → Int32) (yhjn_2 : Int32) (yhjf_2 : Nat → Int32) (yhmn_2 : Int32) (yhmf_2 : Nat → Int32) (yhbn_2 : Int32) (yhbf_2 : Nat → Int32) (yhsn_2 : Int32) (yhsf_2 : Nat → Int32) (yhcn_2 : Int32) (yhcf_2 : Nat → Int32) (zrn_2 : Int32) (zmn_2 : Int32) (zwn_2 : Int32) (zpn_2 : Int32) (zmd_2 : Int32) (ztr_2 : Int32) (zrf_2 : Nat → Int32) (zmf_2 : Nat → Int32) (zwf_2 : Nat → Int32) (zpf_2 : Nat → Int32) (kac_2 : Int32) (knx_2 : Int32) (kim_2 : Int32) (cf_2 : Nat → SC) (m_taped_2 : Int32) (d_tape_2 : Nat → Int32) (d_r_2 : Nat → Int32) (d_st_2 : Nat → Int32) (d_undone_2 : Nat → Int32) (d_kept_2 : Nat → Int32) (m_undos_2 : Int32) (m_images_2 : Int32) (m_hasHouse_2 : Int32) (xw2 mw2 : va_W), XW g h0 xtpd_2 tpf_2 yhnf_2 yhtn_2 yhtf_2 yhjn_2 yhjf_2 yhmn_2 yhmf_2 yhbn_2 yhbf_2 yhsn_2 yhsf_2 yhcn_2 yhcf_2 zrn_2 zmn_2 zwn_2 zpn_2 zmd_2 ztr_2 zrf_2 zmf_2 zwf_2 zpf_2 kac_2 knx_2 kim_2 cf_2 xw2 → MW g mo m_taped_2 d_tape_2 d_r_2 d_st_2 d_undone_2 d_kept_2 m_undos_2 m_images_2 m_hasHouse_2 mw2 → LR xtpd_2 tpf_2 yhnf_2 yhtn_2 yhtf_2 yhjn_2 yhjf_2 yhmn_2 yhmf_2 yhbn_2 yhbf_2 yhsn_2 yhsf_2 yhcn_2 yhcf_2 zrn_2 zmn_2 zwn_2 zpn_2 zmd_2 ztr_2 zrf_2 zmf_2 zwf_2 zpf_2 kac_2 knx_2 kim_2 cf_2 m_taped_2 d_tape_2 d_r_2 d_st_2 d_undone_2 d_kept_2 m_undos_2 m_images_2 m_hasHouse_2 → Wk p l e room_1 s m #[Value.ref b] below meth c (lw_Z below #[Value.ref b] s) A g 7 n1 n2 (xw2 ++ (mw2 ++ [(cAJ g lo 1 fo)])) [(4, .int u4), (3, .ref lo), (2, .ref mo), (1, .ref h0), (0, .ref b)] 2062 []) : Wk p l e room_1 s m #[Value.ref b] below meth c (lw_Z below #[Value.ref b] s) A g 7 n1 n2 (xw ++ (mw ++ [(cAJ g lo 1 fo)])) [(4, .int u4), (3, .ref lo), (2, .ref mo), (1, .ref h0), (0, .ref b)] 1664 [] := by
  have hiv : IV u4 0 3066 := ⟨hi.1, by omega⟩
  refine k_aload_n X dL_law_k84.1.1.1.1 3 rfl ?_
  refine k_aload_n X dL_law_k84.1.1.1.2 4 rfl ?_
  refine k_iload X dL_law_k84.1.1.2.1 0 rfl ?_
  refine k_iconst (v := 1) X dL_law_k84.1.1.2.2 ic_1 ?_
  refine k_iadd X dL_law_k84.1.2.1.1 ?_
  refine k_nm (fun z_1 ez_1 => ?_)
  have i_2 : z_1.toInt = u4.toInt + 1 := in_add ez_1 hiv iq_1_1_1 (zle_e rfl) (zle_e rfl)
  have iv_3 : IV z_1 1 3067 := by have := hiv; have := iq_1_1_1; rw [IV, i_2]; omega
  refine k_sld X hX hbl hbA dL_law_k84.1.2.1.2 (by rw [vp_in_iff]; have := iv_3; omega) ?_
  refine k_nm (fun a_4 ea_4 => ?_)
  refine lx_boys (st := []) a_4 X hx dL_law_k84.1.2.2.1 mw1336 (Nat.le_of_ble_eq_true rfl) (Nat.le_of_ble_eq_true rfl) (Nat.le_of_ble_eq_true rfl) (Nat.le_trans h1 (Nat.le_of_ble_eq_true rfl)) (Nat.le_trans h2 (Nat.le_of_ble_eq_true rfl)) (fun r_5 xw_6 hx_7 => ?_)
  refine k_pop X dL_law_k84.1.2.2.2 rfl ?_
  refine k_aload_n X dL_law_k84.2.1.1.1 2 rfl ?_
  refine k_aload_n X dL_law_k84.2.1.1.2 4 rfl ?_
  refine k_iload X dL_law_k84.2.1.2.1 0 rfl ?_
  refine k_iconst (v := 1) X dL_law_k84.2.1.2.2 ic_1 ?_
  refine k_iadd X dL_law_k84.2.2.1.1 ?_
  refine k_to z_1 ez_1.symm ?_
  refine k_sld X hX hbl hbA dL_law_k84.2.2.1.2 (by rw [vp_in_iff]; have := iv_3; omega) ?_
  refine k_to a_4 ea_4.symm ?_
  refine lm_boys (st := []) a_4 X hm dL_law_k84.2.2.2.1 mw1340 (Nat.le_of_ble_eq_true rfl) (Nat.le_of_ble_eq_true rfl) (Nat.le_of_ble_eq_true rfl) (Nat.le_trans h1 (Nat.le_of_ble_eq_true rfl)) (Nat.le_trans h2 (Nat.le_of_ble_eq_true rfl)) (fun r_8 mw_9 hm_10 => ?_)
  refine k_pop X dL_law_k84.2.2.2.2 rfl ?_
  refine k_goto 2062 X dL_law_k85 (jp_e rfl) ?_
  exact kk _ _ _ _ _ _ _ _ _ _ _ _ _ _ _ _ _ _ _ _ _ _ _ _ _ _ _ _ _ _ _ _ _ _ _ _ _ _ _ _ hx_7 hm_10 hR

theorem dL_law_k86 : ((((dD cL_law 1689 (.aload_n 1) 1 ∧ dD cL_law 1690 (.aload_n 0) 1) ∧ (dD cL_law 1691 (.iload 4) 2 ∧ dD cL_law 1693 (.iconst 1) 1)) ∧ ((dD cL_law 1694 .iadd 1 ∧ dD cL_law 1695 .iaload 1) ∧ (dD cL_law 1696 (.ifCond .eq 7) 3 ∧ dD cL_law 1699 (.iconst 1) 1))) ∧ (((dD cL_law 1700 (.goto 4) 3 ∧ dD cL_law 1703 (.iconst 0) 1) ∧ (dD cL_law 1704 (.invokevirtual 189) 3 ∧ dD cL_law 1707 .pop2 1)) ∧ ((dD cL_law 1708 (.aload_n 2) 1 ∧ dD cL_law 1709 (.aload_n 0) 1) ∧ (dD cL_law 1710 (.iload 4) 2 ∧ dD cL_law 1712 (.iconst 1) 1)))) := dkA16 (by decide +kernel)
theorem dL_law_k87 : (((dD cL_law 1713 .iadd 1 ∧ dD cL_law 1714 .iaload 1) ∧ (dD cL_law 1715 (.ifCond .eq 7) 3 ∧ dD cL_law 1718 (.iconst 1) 1)) ∧ ((dD cL_law 1719 (.goto 4) 3 ∧ dD cL_law 1722 (.iconst 0) 1) ∧ (dD cL_law 1723 (.invokevirtual 193) 3 ∧ (dD cL_law 1726 .pop2 1 ∧ dD cL_law 1727 (.goto 335) 3)))) := dkA9 (by decide +kernel)
set_option maxHeartbeats 4000000 in
set_option maxRecDepth 100000 in
theorem law_c41 {p : Program} {l : Launch} {e : Env} {s : State} {m : MethodId} {below : List Frame} {meth : Method} {c : Code} {A : Nat → Prop} {g : Gx} {b L : Nat} {xs : Nat → Int32} {h0 mo lo n1 n2 : Nat} {fo : Nat → Int64} {u4 : Int32} {xtpd : Int32} {tpf : Nat → Int32} {yhnf : Nat → Int32} {yhtn : Int32} {yhtf : Nat → Int32} {yhjn : Int32} {yhjf : Nat → Int32} {yhmn : Int32} {yhmf : Nat → Int32} {yhbn : Int32} {yhbf : Nat → Int32} {yhsn : Int32} {yhsf : Nat → Int32} {yhcn : Int32} {yhcf : Nat → Int32} {zrn : Int32} {zmn : Int32} {zwn : Int32} {zpn : Int32} {zmd : Int32} {ztr : Int32} {zrf : Nat → Int32} {zmf : Nat → Int32} {zwf : Nat → Int32} {zpf : Nat → Int32} {kac : Int32} {knx : Int32} {kim : Int32} {cf : Nat → SC} {m_taped : Int32} {d_tape : Nat → Int32} {d_r : Nat → Int32} {d_st : Nat → Int32} {d_undone : Nat → Int32} {d_kept : Nat → Int32} {m_undos : Int32} {m_images : Int32} {m_hasHouse : Int32} {xw mw : va_W} (X : Cx p s m meth c #[Value.ref b] cL_law 7 RL A g) (hX : va_X b L xs s s.heap) (hbl : b < s.heap.size) (hbA : ¬ A b) (hi : 0 ≤ u4.toInt ∧ u4.toInt + 6 ≤ (L : Int)) (hL : L ≤ 3072) (h1 : n1 ≤ 601023) (h2 : n2 ≤ 7293028) (hlt : l.stackTraces = false) (hZ : kZ A s s.heap) (htsE : ∀ w ∈ wsE, w.before #[Value.ref b] s = true) (hx : XW g h0 xtpd tpf yhnf yhtn yhtf yhjn yhjf yhmn yhmf yhbn yhbf yhsn yhsf yhcn yhcf zrn zmn zwn zpn zmd ztr zrf zmf zwf zpf kac knx kim cf xw) (hm : MW g mo m_taped d_tape d_r d_st d_undone d_kept m_undos m_images m_hasHouse mw) (hR : LR xtpd tpf yhnf yhtn yhtf yhjn yhjf yhmn yhmf yhbn yhbf yhsn yhsf yhcn yhcf zrn zmn zwn zpn zmd ztr zrf zmf zwf zpf kac knx kim cf m_taped d_tape d_r d_st d_undone d_kept m_undos m_images m_hasHouse) (kk : ∀ (xtpd_2 : Int32) (tpf_2 : Nat → Int32) (yhnf_2 : Nat → Int32) (yhtn_2 : Int32) (yhtf_2 : Nat → Int32) (yhjn_2 : Int32) (yhjf_2 : Nat → Int32) (yhmn_2 : Int32) (yhmf_2 : Nat → Int32) (yhbn_2 : Int32) (yhbf_2 : Nat → Int32) (yhsn_2 : Int32) (yhsf_2 : Nat → Int32) (yhcn_2 : Int32) (yhcf_2 : Nat → Int32) (zrn_2 : Int32) (zmn_2 : Int32) (zwn_2 : Int32) (zpn_2 : Int32) (zmd_2 : Int32) (ztr_2 : Int32) (zrf_2 : Nat → Int32) (zmf_2 : Nat → Int32) (zwf_2 : Nat → Int32) (zpf_2 : Nat → Int32) (kac_2 : Int32) (knx_2 : Int32) (kim_2 : Int32) (cf_2 : Nat → SC) (m_taped_2 : Int32) (d_tape_2 : Nat → Int32) (d_r_2 : Nat → Int32) (d_st_2 : Nat → Int32) (d_undone_2 : Nat → Int32) (d_kept_2 : Nat → Int32) (m_undos_2 : Int32) (m_images_2 : Int32) (m_hasHouse_2 : Int32) (xw2 mw2 : va_W), XW g h0 xtpd_2 tpf_2 yhnf_2 yhtn_2 yhtf_2 yhjn_2 yhjf_2 yhmn_2 yhmf_2 yhbn_2 yhbf_2 yhsn_2 yhsf_2 yhcn_2 yhcf_2 zrn_2 zmn_2 zwn_2 zpn_2 zmd_2 ztr_2 zrf_2 zmf_2 zwf_2 zpf_2 kac_2 knx_2 kim_2 cf_2 xw2 → MW g mo m_taped_2 d_tape_2 d_r_2 d_st_2 d_undone_2 d_kept_2 m_undos_2 m_images_2 m_hasHouse_2 mw2 → LR xtpd_2 tpf_2 yhnf_2 yhtn_2 yhtf_2 yhjn_2 yhjf_2 yhmn_2 yhmf_2 yhbn_2 yhbf_2 yhsn_2 yhsf_2 yhcn_2 yhcf_2 zrn_2 zmn_2 zwn_2 zpn_2 zmd_2 ztr_2 zrf_2 zmf_2 zwf_2 zpf_2 kac_2 knx_2 kim_2 cf_2 m_taped_2 d_tape_2 d_r_2 d_st_2 d_undone_2 d_kept_2 m_undos_2 m_images_2 m_hasHouse_2 → Wk p l e room_1 s m #[Value.ref b] below meth c (lw_Z below #[Value.ref b] s) A g 7 n1 n2 (xw2 ++ (mw2 ++ [(cAJ g lo 1 fo)])) [(4, .int u4), (3, .ref lo), (2, .ref mo), (1, .ref h0), (0, .ref b)] 2062 []) : Wk p l e room_1 s m #[Value.ref b] below meth c (lw_Z below #[Value.ref b] s) A g 7 n1 n2 (xw ++ (mw ++ [(cAJ g lo 1 fo)])) [(4, .int u4), (3, .ref lo), (2, .ref mo), (1, .ref h0), (0, .ref b)] 1689 [] := by
  have hiv : IV u4 0 3066 := ⟨hi.1, by omega⟩
  refine k_aload_n X dL_law_k86.1.1.1.1 3 rfl ?_
  refine k_aload_n X dL_law_k86.1.1.1.2 4 rfl ?_
  refine k_iload X dL_law_k86.1.1.2.1 0 rfl ?_
  refine k_iconst (v := 1) X dL_law_k86.1.1.2.2 ic_1 ?_
  refine k_iadd X dL_law_k86.1.2.1.1 ?_
  refine k_nm (fun z_1 ez_1 => ?_)
  have i_2 : z_1.toInt = u4.toInt + 1 := in_add ez_1 hiv iq_1_1_1 (zle_e rfl) (zle_e rfl)
  have iv_3 : IV z_1 1 3067 := by have := hiv; have := iq_1_1_1; rw [IV, i_2]; omega
  refine k_sld X hX hbl hbA dL_law_k86.1.2.1.2 (by rw [vp_in_iff]; have := iv_3; omega) ?_
  refine k_nm (fun a_4 ea_4 => ?_)
  refine k_if_eq 1703 X dL_law_k86.1.2.2.1 (jp_e rfl) (fun h_5 => ?_) (fun h_5 => ?_)
  · skip
    have iv_6 : IV a_4 0 0 := iv_meet (iv_any a_4) (iv_e h_5 iq_0_0_0) (zle_o rfl) (zle_o rfl)
    refine k_iconst (v := 0) X dL_law_k86.2.1.1.2 ic_0 ?_
    refine lx_well (st := []) 0 X hx dL_law_k86.2.1.2.1 mw1344 (Nat.le_of_ble_eq_true rfl) (Nat.le_of_ble_eq_true rfl) (Nat.le_of_ble_eq_true rfl) (Nat.le_trans h1 (Nat.le_of_ble_eq_true rfl)) (Nat.le_trans h2 (Nat.le_of_ble_eq_true rfl)) (fun r_7 xw_8 hx_9 => ?_)
    refine k_pop2 X dL_law_k86.2.1.2.2 rfl ?_
    refine k_aload_n X dL_law_k86.2.2.1.1 2 rfl ?_
    refine k_aload_n X dL_law_k86.2.2.1.2 4 rfl ?_
    refine k_iload X dL_law_k86.2.2.2.1 0 rfl ?_
    refine k_iconst (v := 1) X dL_law_k86.2.2.2.2 ic_1 ?_
    refine k_iadd X dL_law_k87.1.1.1 ?_
    refine k_to z_1 ez_1.symm ?_
    refine k_sld X hX hbl hbA dL_law_k87.1.1.2 (by rw [vp_in_iff]; have := iv_3; omega) ?_
    refine k_to a_4 ea_4.symm ?_
    refine k_if_eq 1722 X dL_law_k87.1.2.1 (jp_e rfl) (fun h_10 => ?_) (fun h_10 => absurd h_5 h_10)
    refine k_iconst (v := 0) X dL_law_k87.2.1.2 ic_0 ?_
    refine lm_well (st := []) 0 X hm dL_law_k87.2.2.1 mw1348 (Nat.le_of_ble_eq_true rfl) (Nat.le_of_ble_eq_true rfl) (Nat.le_of_ble_eq_true rfl) (Nat.le_trans h1 (Nat.le_of_ble_eq_true rfl)) (Nat.le_trans h2 (Nat.le_of_ble_eq_true rfl)) (fun r_11 mw_12 hm_13 => ?_)
    refine k_pop2 X dL_law_k87.2.2.2.1 rfl ?_
    refine k_goto 2062 X dL_law_k87.2.2.2.2 (jp_e rfl) ?_
    exact kk _ _ _ _ _ _ _ _ _ _ _ _ _ _ _ _ _ _ _ _ _ _ _ _ _ _ _ _ _ _ _ _ _ _ _ _ _ _ _ _ hx_9 hm_13 hR
  · skip
    refine k_iconst (v := 1) X dL_law_k86.1.2.2.2 ic_1 ?_
    refine k_goto 1704 X dL_law_k86.2.1.1.1 (jp_e rfl) ?_
    refine lx_well (st := []) 1 X hx dL_law_k86.2.1.2.1 mw1344 (Nat.le_of_ble_eq_true rfl) (Nat.le_of_ble_eq_true rfl) (Nat.le_of_ble_eq_true rfl) (Nat.le_trans h1 (Nat.le_of_ble_eq_true rfl)) (Nat.le_trans h2 (Nat.le_of_ble_eq_true rfl)) (fun r_14 xw_15 hx_16 => ?_)
    refine k_pop2 X dL_law_k86.2.1.2.2 rfl ?_
    refine k_aload_n X dL_law_k86.2.2.1.1 2 rfl ?_
    refine k_aload_n X dL_law_k86.2.2.1.2 4 rfl ?_
    refine k_iload X dL_law_k86.2.2.2.1 0 rfl ?_
    refine k_iconst (v := 1) X dL_law_k86.2.2.2.2 ic_1 ?_
    refine k_iadd X dL_law_k87.1.1.1 ?_
    refine k_to z_1 ez_1.symm ?_
    refine k_sld X hX hbl hbA dL_law_k87.1.1.2 (by rw [vp_in_iff]; have := iv_3; omega) ?_
    refine k_to a_4 ea_4.symm ?_
    refine k_if_eq 1722 X dL_law_k87.1.2.1 (jp_e rfl) (fun h_17 => absurd h_17 h_5) (fun h_17 => ?_)
    refine k_iconst (v := 1) X dL_law_k87.1.2.2 ic_1 ?_
    refine k_goto 1723 X dL_law_k87.2.1.1 (jp_e rfl) ?_
    refine lm_well (st := []) 1 X hm dL_law_k87.2.2.1 mw1348 (Nat.le_of_ble_eq_true rfl) (Nat.le_of_ble_eq_true rfl) (Nat.le_of_ble_eq_true rfl) (Nat.le_trans h1 (Nat.le_of_ble_eq_true rfl)) (Nat.le_trans h2 (Nat.le_of_ble_eq_true rfl)) (fun r_18 mw_19 hm_20 => ?_)
    refine k_pop2 X dL_law_k87.2.2.2.1 rfl ?_
    refine k_goto 2062 X dL_law_k87.2.2.2.2 (jp_e rfl) ?_
    exact kk _ _ _ _ _ _ _ _ _ _ _ _ _ _ _ _ _ _ _ _ _ _ _ _ _ _ _ _ _ _ _ _ _ _ _ _ _ _ _ _ hx_16 hm_20 hR
