set_option maxRecDepth 100000
set_option maxHeartbeats 4000000
def LR (xt : Int32) (tp : Nat → Int32) (fn fp mt : Int32) (T : Nat → Int32) (ft pl : Int32) : Prop := xt = mt ∧ TpR tp T ∧ fn = ft
theorem LR0 : LR 0 (fun _ => 0) 0 0 0 (fun _ => 0) 0 (-1) := ⟨rfl, fun _ _ => ⟨show IV (0 : Int32) 0 255 from (by decide), show (0 : Int32) = sx 0 from (by decide)⟩, rfl⟩
theorem LR_feed {p0 p1 p2 p3 p4 xt fn fp mt ft pl xt2 mt2 r r2 : Int32} {tp T tp2 T2 : Nat → Int32} (h : LR xt tp fn fp mt T ft pl) (hx : R_c_feedX p0 p1 p2 p3 p4 xt tp xt2 tp2 r) (hm : ∃ th : Int32, R_m_feedX p0 p1 p2 p3 p4 mt T T2 mt2 th r2) : LR xt2 tp2 fn fp mt2 T2 ft pl := by
  obtain ⟨rfl, hT, rfl⟩ := h
  obtain ⟨th, hm⟩ := hm
  obtain ⟨h1, h2, -⟩ := q_feed hx hm hT
  exact ⟨h1, h2, rfl⟩
theorem LR_house {n xt fn fp mt ft pl xt2 fn2 fp2 mt2 ft2 pl2 r r2 : Int32} {tp T : Nat → Int32} (h : LR xt tp fn fp mt T ft pl) (hx : ∃ tr : Int32, HX n xt tp fn fp xt2 fn2 fp2 tr r) (hm : ∃ tr : Int32, HM n mt T ft pl mt2 ft2 pl2 tr r2) : LR xt2 tp fn2 fp2 mt2 T ft2 pl2 := by
  obtain ⟨rfl, hT, rfl⟩ := h
  obtain ⟨tr, hx⟩ := hx
  obtain ⟨tr2, hm⟩ := hm
  obtain ⟨h1, h2⟩ := HXM hx hm hT
  exact ⟨h1, hT, h2⟩
theorem LR_houseA {n xt fn fp mt ft pl xt2 fn2 fp2 mt2 ft2 pl2 r r2 : Int32} {tp T : Nat → Int32} (h : LR xt tp fn fp mt T ft pl) (hx : ∃ tr : Int32, HX n xt tp fn fp xt2 fn2 fp2 tr r) (hm : ∃ tr : Int32, HM n mt T ft pl mt2 ft2 pl2 tr r2) : r = r2 := by
  obtain ⟨rfl, hT, -⟩ := h
  obtain ⟨tr, hx⟩ := hx
  obtain ⟨tr2, hm⟩ := hm
  exact (HXM2 hx hm hT).2.1
theorem LR_fault {xt fn fp mt ft pl r r2 : Int32} {tp T : Nat → Int32} (h : LR xt tp fn fp mt T ft pl) (hx : r = fn) (hm : r2 = ft) : r = r2 := hx.trans (h.2.2.trans hm.symm)
