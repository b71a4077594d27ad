set_option maxRecDepth 100000
set_option maxHeartbeats 4000000
def LR (xt : Int32) (tp : Nat → Int32) (fn fp tr mt : Int32) (T : Nat → Int32) (ft pl tm : Int32) : Prop := xt = mt ∧ TpR tp T ∧ fn = ft ∧ (tr = 4 ↔ tm = 4) ∧ (tr = 4 → fp = pl)
theorem LR0 : LR 0 (fun _ => 0) 0 0 0 0 (fun _ => 0) 0 (-1) 0 := ⟨rfl, fun _ _ => ⟨show IV (0 : Int32) 0 255 from (by decide), show (0 : Int32) = sx 0 from (by decide)⟩, rfl, Iff.rfl, fun h => absurd h (by decide)⟩
theorem LR_feed {p0 p1 p2 p3 p4 xt fn fp tr mt ft pl tm xt2 mt2 r r2 : Int32} {tp T tp2 T2 : Nat → Int32} (h : LR xt tp fn fp tr mt T ft pl tm) (hx : R_c_feedX p0 p1 p2 p3 p4 xt tp xt2 tp2 r) (hm : ∃ th : Int32, R_m_feedX p0 p1 p2 p3 p4 mt T T2 mt2 th r2) : LR xt2 tp2 fn fp tr mt2 T2 ft pl tm := by
  obtain ⟨rfl, hT, h3⟩ := h
  obtain ⟨th, hm⟩ := hm
  obtain ⟨h1, h2, -⟩ := q_feed hx hm hT
  exact ⟨h1, h2, h3⟩
theorem LR_house {n xt fn fp tr mt ft pl tm xt2 fn2 fp2 tr2 mt2 ft2 pl2 tm2 r r2 : Int32} {tp T : Nat → Int32} (h : LR xt tp fn fp tr mt T ft pl tm) (hx : HX n xt tp fn fp xt2 fn2 fp2 tr2 r) (hm : HM n mt T ft pl mt2 ft2 pl2 tm2 r2) : LR xt2 tp fn2 fp2 tr2 mt2 T ft2 pl2 tm2 := by
  obtain ⟨rfl, hT, rfl, -, -⟩ := h
  obtain ⟨h1, h2⟩ := HXM hx hm hT
  obtain ⟨rfl, -, h4⟩ := HXM2 hx hm hT
  exact ⟨h1, hT, h2, Iff.rfl, h4⟩
theorem LR_q {xt fn fp tr mt ft pl tm tr2 tm2 : Int32} {tp T : Nat → Int32} (h : LR xt tp fn fp tr mt T ft pl tm) (hx : tr2 ≠ 4) (hm : tm2 ≠ 4) : LR xt tp fn fp tr2 mt T ft pl tm2 := ⟨h.1, h.2.1, h.2.2.1, ⟨fun q => absurd q hx, fun q => absurd q hm⟩, fun q => absurd q hx⟩
theorem LR_where {xt fn fp tr mt ft pl tm r r2 : Int32} {tp T : Nat → Int32} (h : LR xt tp fn fp tr mt T ft pl tm) (hx : R_c_whereX tr fp r) (hm : ∃ th : Int32, R_m_whereX pl tm th r2) : r = r2 := by
  obtain ⟨-, -, -, h4, h5⟩ := h
  obtain ⟨th, hm⟩ := hm
  rcases hx with ⟨q, hx⟩ | ⟨q, hx⟩
  · rcases hm with ⟨-, -, hm⟩ | ⟨q2, -⟩
    · exact hx.trans hm.symm
    · exact absurd (h4.mpr q2) q
  · rcases hm with ⟨q2, -⟩ | ⟨-, -, hm⟩
    · exact absurd (h4.mp q) q2
    · exact hx.trans ((h5 q).trans hm.symm)
