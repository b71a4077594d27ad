set_option maxRecDepth 100000
set_option maxHeartbeats 4000000
theorem LR_CN {xtpd : Int32} {tpf yhnf : Nat → Int32} {yhtn : Int32} {yhtf : Nat → Int32} {yhjn : Int32} {yhjf : Nat → Int32} {yhmn : Int32} {yhmf : Nat → Int32} {yhbn : Int32} {yhbf : Nat → Int32} {yhsn : Int32} {yhsf : Nat → Int32} {yhcn : Int32} {yhcf : Nat → Int32} {zrn zmn zwn zpn zmd ztr : Int32} {zrf zmf zwf zpf : Nat → Int32} {kac knx kim : Int32} {cf : Nat → SC} {m_taped : Int32} {d_tape d_r d_st d_undone d_kept : Nat → Int32} {m_undos m_images m_hasHouse : Int32} (h : LR xtpd tpf yhnf yhtn yhtf yhjn yhjf yhmn yhmf yhbn yhbf yhsn yhsf yhcn yhcf zrn zmn zwn zpn zmd ztr zrf zmf zwf zpf kac knx kim cf m_taped d_tape d_r d_st d_undone d_kept m_undos m_images m_hasHouse) : CN d_r d_st yhnf yhmn yhmf zrf zmn zmf zpn zpf := by
  obtain ⟨-, ⟨hF, ⟨⟨a1, a2, a3, a4, a5, a6⟩, h1, h2, h3, h4⟩, hK, h01, h0, hp⟩, ⟨⟨t1, t2, t3, t4, t5⟩, u1, u2, u3, u4, u5, u6, u7, u8⟩, hB, hV, hS⟩ := h
  refine ⟨⟨hB, hF.2.2.2⟩, ⟨u2 0 (by first | decide | omega), u2 1 (by first | decide | omega)⟩, ⟨t3, a2, a4⟩, u5, h1, h2, h4, fun k hk => ?_⟩
  have q := hV.1.2.2.2.2.1 k hk
  unfold Lt at q
  rw [Nat.one_mul] at q
  exact q
theorem LR_MN {xtpd : Int32} {tpf yhnf : Nat → Int32} {yhtn : Int32} {yhtf : Nat → Int32} {yhjn : Int32} {yhjf : Nat → Int32} {yhmn : Int32} {yhmf : Nat → Int32} {yhbn : Int32} {yhbf : Nat → Int32} {yhsn : Int32} {yhsf : Nat → Int32} {yhcn : Int32} {yhcf : Nat → Int32} {zrn zmn zwn zpn zmd ztr : Int32} {zrf zmf zwf zpf : Nat → Int32} {kac knx kim : Int32} {cf : Nat → SC} {m_taped : Int32} {d_tape d_r d_st d_undone d_kept : Nat → Int32} {m_undos m_images m_hasHouse : Int32} (h : LR xtpd tpf yhnf yhtn yhtf yhjn yhjf yhmn yhmf yhbn yhbf yhsn yhsf yhcn yhcf zrn zmn zwn zpn zmd ztr zrf zmf zwf zpf kac knx kim cf m_taped d_tape d_r d_st d_undone d_kept m_undos m_images m_hasHouse) : MN d_r d_st m_hasHouse := by
  obtain ⟨-, ⟨hF, ⟨⟨a1, a2, a3, a4, a5, a6⟩, h1, h2, h3, h4⟩, hK, h01, h0, hp⟩, ⟨⟨t1, t2, t3, t4, t5⟩, u1, u2, u3, u4, u5, u6, u7, u8⟩, hB, hV, hS⟩ := h
  have hr : ∀ k : Nat, (k : Int) < (d_r 12).toInt → 0 ≤ (d_r (126 + k)).toInt ∧ (d_r (126 + k)).toInt < (d_r 6).toInt := fun k hk => by
    have q := hV.1.2.2.2.2.1 k hk
    unfold Lt at q
    rw [Nat.one_mul] at q
    exact q
  have b6 := hF.1.2
  have b11 := hB.2.2.2.2.2.1.2
  have b12 := hF.2.2.2.2
  obtain ⟨N8, n8, hN8⟩ := ivN 12 hF.2.1
  refine ⟨⟨hB.2.2.2.2.2.1, hF.2.2.2⟩, fun q => ⟨(hS.2.2.2.2.2 q).1 11 (by first | decide | omega), (h0 q).2.2.2⟩, ⟨hV.2.1.1, hV.2.1.2.1, fun k hk => ?_, fun k hk => hS.1.2.2.2.1 k (by omega)⟩, fun k hk => ⟨(hr k hk).1, by have := (hr k hk).2; omega⟩, fun mi k hmi hk r hrr => ?_⟩
  · have q := hr k (by omega)
    exact (hS.1.1 (d_r (126 + k)).toInt.toNat (by omega)).1
  · have q := hr k hk
    exact bel_m n8 hN8 (by omega) (by omega) rfl ⟨q.1, by omega⟩ (hV.2.2.2.2.2.2.2.2.1 mi hmi).1 (hV.2.2.2.2.2.2.2.2.2.2.2) (fun m hm => (hS.1.2.1 m hm).1) hrr
theorem LR_believesA {xtpd : Int32} {tpf yhnf : Nat → Int32} {yhtn : Int32} {yhtf : Nat → Int32} {yhjn : Int32} {yhjf : Nat → Int32} {yhmn : Int32} {yhmf : Nat → Int32} {yhbn : Int32} {yhbf : Nat → Int32} {yhsn : Int32} {yhsf : Nat → Int32} {yhcn : Int32} {yhcf : Nat → Int32} {zrn zmn zwn zpn zmd ztr : Int32} {zrf zmf zwf zpf : Nat → Int32} {kac knx kim : Int32} {cf : Nat → SC} {m_taped : Int32} {d_tape d_r d_st d_undone d_kept : Nat → Int32} {m_undos m_images m_hasHouse : Int32} {a1 a2 r r2 : Int32} (h : LR xtpd tpf yhnf yhtn yhtf yhjn yhjf yhmn yhmf yhbn yhbf yhsn yhsf yhcn yhcf zrn zmn zwn zpn zmd ztr zrf zmf zwf zpf kac knx kim cf m_taped d_tape d_r d_st d_undone d_kept m_undos m_images m_hasHouse) (hx : ∃ xsnapped : Int32, ∃ xmostSlip : Int32, ∃ xslip : Int32, ∃ xisDrawn : Int32, ∃ xseed : Int32, ∃ xtick : Int32, ∃ xmotorTick : Int32, ∃ xahead : Int32, ∃ nrn : Int32, ∃ nrf : Nat → Int32, ∃ tr2 : Int32, ∃ xsnapped2 : Int32, ∃ xmostSlip2 : Int32, ∃ xslip2 : Int32, ∃ xisDrawn2 : Int32, ∃ xseed2 : Int32, ∃ xtick2 : Int32, ∃ xmotorTick2 : Int32, ∃ xahead2 : Int32, ∃ nrg : Nat → Int32, ∃ nrk : Int32, R_c_believesX a1 a2 xsnapped xmostSlip xslip xisDrawn xseed xtick xmotorTick xahead nrn nrf yhnf yhmn yhmf zmd zrf zmn zmf zwn zwf zpn zpf tr2 xsnapped2 xmostSlip2 xslip2 xisDrawn2 xseed2 xtick2 xmotorTick2 xahead2 nrg nrk r) (hm : ∃ d_from : Nat → Int32, ∃ d_begin : Nat → Int32, ∃ d_motor : Nat → Int32, ∃ d_change : Nat → Int32, ∃ d_startFrame : Nat → Int32, ∃ d_changeFrame : Nat → Int32, ∃ d_lostAt : Nat → Int32, ∃ d_blackAt : Nat → Int32, ∃ d_slips : Nat → Int32, ∃ d_begin2 : Nat → Int32, ∃ d_blackAt2 : Nat → Int32, ∃ d_change2 : Nat → Int32, ∃ d_changeFrame2 : Nat → Int32, ∃ d_from2 : Nat → Int32, ∃ d_lostAt2 : Nat → Int32, ∃ d_motor2 : Nat → Int32, ∃ d_slips2 : Nat → Int32, ∃ d_startFrame2 : Nat → Int32, ∃ m_thrown2 : Int32, ∃ m_trouble2 : Int32, R_m_believesX a1 a2 m_hasHouse d_r d_st d_from d_begin d_motor d_change d_startFrame d_changeFrame d_lostAt d_blackAt d_slips d_begin2 d_blackAt2 d_change2 d_changeFrame2 d_from2 d_lostAt2 d_motor2 d_slips2 d_startFrame2 m_thrown2 m_trouble2 r2) : r = r2 := by
  obtain ⟨_, _, _, _, _, _, _, _, _, _, _, _, _, _, _, _, _, _, _, _, _, hx⟩ := hx
  obtain ⟨_, _, _, _, _, _, _, _, _, _, _, _, _, _, _, _, _, _, _, _, hm⟩ := hm
  exact (B_believes (LR_CN h) (LR_MN h) hx hm).1
