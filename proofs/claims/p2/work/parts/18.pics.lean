theorem pm_pickX {xw cells pl yw wc : va_W} (n : Nat) (isR isC : List Nat) (hn : cells.length = n) (h : (isR ++ isC).isPerm (List.range n) = true) (hpm : xw.Perm (cells ++ pl)) (hc : isC.filterMap (fun i => cells[i]?) = wc) : (xw ++ yw).Perm ((isR.filterMap (fun i => cells[i]?) ++ (pl ++ yw)) ++ wc) := by
  have h1 : cells.Perm (isR.filterMap (fun i => cells[i]?) ++ wc) := by
    refine (pm_iy n (isR ++ isC) hn h rfl).trans ?_
    rw [List.filterMap_append, hc]
  refine ((hpm.trans (pm_t pl h1)).append_right yw).trans ?_
  rw [List.append_assoc, List.append_assoc, List.append_assoc, List.append_assoc]
  refine List.Perm.append_left _ ?_
  refine List.Perm.append_left pl ?_
  exact List.perm_append_comm
theorem pm_pickT {xw cells pl yw wc : va_W} (n : Nat) (isR isC : List Nat) (hn : cells.length = n) (h : (isR ++ isC).isPerm (List.range n) = true) (hpm : xw.Perm (cells ++ pl)) (hc : isC.filterMap (fun i => cells[i]?) = wc) : (xw ++ yw).Perm ((isR.filterMap (fun i => cells[i]?) ++ yw) ++ (wc ++ pl)) := by
  have h1 : cells.Perm (isR.filterMap (fun i => cells[i]?) ++ wc) := by
    refine (pm_iy n (isR ++ isC) hn h rfl).trans ?_
    rw [List.filterMap_append, hc]
  refine ((hpm.trans (pm_u pl h1)).append_right yw).trans ?_
  rw [List.append_assoc, List.append_assoc]
  refine List.Perm.append_left _ ?_
  exact List.perm_append_comm
theorem pm_backX {wr pl yw w : va_W} : ((wr ++ (pl ++ yw)) ++ w).Perm (((wr ++ w) ++ pl) ++ yw) := by
  rw [List.append_assoc, List.append_assoc, List.append_assoc, List.append_assoc]
  refine List.Perm.append_left wr ?_
  have q := List.perm_append_comm (l₁ := pl ++ yw) (l₂ := w)
  rw [List.append_assoc] at q
  exact q
theorem pm_backT {wr yw w pl : va_W} : ((wr ++ yw) ++ (w ++ pl)).Perm (((wr ++ w) ++ pl) ++ yw) := by
  rw [List.append_assoc, List.append_assoc, List.append_assoc]
  refine List.Perm.append_left wr ?_
  have q := List.perm_append_comm (l₁ := yw) (l₂ := w ++ pl)
  rw [List.append_assoc w pl yw] at q
  exact q
theorem pm_pickM {mw cells xw ow wc : va_W} (n : Nat) (isR isC : List Nat) (hn : cells.length = n) (h : (isR ++ isC).isPerm (List.range n) = true) (hpm : mw.Perm cells) (hc : isC.filterMap (fun i => cells[i]?) = wc) : (xw ++ (mw ++ ow)).Perm ((isR.filterMap (fun i => cells[i]?) ++ (xw ++ ow)) ++ wc) := by
  have h1 : cells.Perm (isR.filterMap (fun i => cells[i]?) ++ wc) := by
    refine (pm_iy n (isR ++ isC) hn h rfl).trans ?_
    rw [List.filterMap_append, hc]
  refine (List.Perm.append_left xw ((hpm.trans h1).append_right ow)).trans ?_
  generalize isR.filterMap (fun i => cells[i]?) = wr
  have q1 : (xw ++ (wr ++ wc ++ ow)).Perm ((wr ++ wc) ++ (xw ++ ow)) := by
    rw [← List.append_assoc, ← List.append_assoc]
    exact List.Perm.append_right ow List.perm_append_comm
  refine q1.trans ?_
  rw [List.append_assoc wr (xw ++ ow) wc, List.append_assoc wr wc]
  exact List.Perm.append_left wr List.perm_append_comm
theorem pm_backM {wr xw ow w : va_W} : ((wr ++ (xw ++ ow)) ++ w).Perm (xw ++ ((wr ++ w) ++ ow)) := by
  have q1 : ((wr ++ (xw ++ ow)) ++ w).Perm ((xw ++ ow) ++ (wr ++ w)) := by
    refine (List.perm_append_comm.append_right w).trans ?_
    rw [List.append_assoc]
  refine q1.trans ?_
  rw [List.append_assoc]
  exact List.Perm.append_left xw List.perm_append_comm
/-- the object: what its cells may hold; t bytes are taped -/
def XW (g : Gx) (h0 : Nat) (xtpd : Int32) (xw : va_W) : Prop := ∃ (tt tl nw kk nn ac rd xc fr th tp nm nd ndc qs qhn qht qhj qhm qhb qhs qhc qr qm qw qp qrc qmc qwc qpc qhnc qhtc qhjc qhmc qhbc qhsc qhcc ys yhn yht yhj yhm yhb yhs yhc yr ym yw yp yrc ymc ywc ypc yhnc yhtc yhjc yhmc yhbc yhsc yhcc zr zm zw zp zrc zmc zwc zpc kah kig nr nrc al alc rb rbc eo ep es eoc epc : Nat) (tr xfn xfp xen xkd xsta xpo xva xtk xta ndn qmd qtr qrn qmn qwn qpn qhnn qhtn qhjn qhmn qhbn qhsn qhcn ymd ytr yrn ymn ywn ypn yhnn yhtn yhjn yhmn yhbn yhsn yhcn zmd ztr zrn zmn zwn zpn kac knx kim xsnapped xmostSlip xslip xisDrawn xseed xtick xmotorTick xahead nrn xd aln xa xw rbn eon epn : Int32) (xle xu xv : Int64) (tpf ndf qrf qmf qwf qpf qhnf qhtf qhjf qhmf qhbf qhsf qhcf yrf ymf ywf ypf yhnf yhtf yhjf yhmf yhbf yhsf yhcf zrf zmf zwf zpf nrf alf rbf eof epf : Nat → Int32) (nmf es_f : Nat → Int64) (kaf kgf : Nat → Option Nat) (as : List Nat) (pl : va_W), (IV xen 0 900) ∧ (IV xsta 0 900) ∧ (IV xpo 0 900) ∧ (IV xtpd 0 900) ∧ (IV kac 0 12) ∧ (IV knx 0 11) ∧ (IV kim 0 3) ∧ (¬ xmostSlip < 0) ∧ (PL g as pl) ∧ (∀ i : Nat, i < 12 → kaf i = as[i]?) ∧ (∀ i : Nat, i < 3 → kgf i = as[12 + i]?) ∧ (as.length = 15) ∧ xw.Perm ([(h0, .inr (10, [.ref tt, .ref tl, .ref nw, .ref kk, .ref nn, .ref ac, .ref rd, .ref xc, .ref fr, .int tr])), (tt, .inr (9, [.int xtpd, .ref th, .int xfn, .int xfp, .ref tp, .int xen, .ref nm, .ref nd, .int xkd, .int xsta, .int xpo, .int xva, .long xle, .int xtk, .int xta])), (tp, .inl (g.2.1, 900, .inl tpf)), (nm, .inl (g.2.2.2.1, 16, .inr (.inl nmf))), (nd, .inr (8, [.int 16, .int 2, .ref ndc, .int ndn])), (ndc, .inl (g.2.2.1, 32, .inl ndf)), (th, .inr (3, [.ref qs, .ref qhn, .ref qht, .ref qhj, .ref qhm, .ref qhb, .ref qhs, .ref qhc])), (qs, .inr (7, [.ref qr, .ref qm, .ref qw, .ref qp, .int qmd, .int qtr])), (qr, .inr (8, [.int 8, .int 3, .ref qrc, .int qrn])), (qrc, .inl (g.2.2.1, 24, .inl qrf)), (qm, .inr (8, [.int 12, .int 3, .ref qmc, .int qmn])), (qmc, .inl (g.2.2.1, 36, .inl qmf)), (qw, .inr (8, [.int 6, .int 3, .ref qwc, .int qwn])), (qwc, .inl (g.2.2.1, 18, .inl qwf)), (qp, .inr (8, [.int 8, .int 2, .ref qpc, .int qpn])), (qpc, .inl (g.2.2.1, 16, .inl qpf)), (qhn, .inr (8, [.int 1, .int 6, .ref qhnc, .int qhnn])), (qhnc, .inl (g.2.2.1, 6, .inl qhnf)), (qht, .inr (8, [.int 4, .int 1, .ref qhtc, .int qhtn])), (qhtc, .inl (g.2.2.1, 4, .inl qhtf)), (qhj, .inr (8, [.int 8, .int 2, .ref qhjc, .int qhjn])), (qhjc, .inl (g.2.2.1, 16, .inl qhjf)), (qhm, .inr (8, [.int 4, .int 3, .ref qhmc, .int qhmn])), (qhmc, .inl (g.2.2.1, 12, .inl qhmf)), (qhb, .inr (8, [.int 1, .int 3, .ref qhbc, .int qhbn])), (qhbc, .inl (g.2.2.1, 3, .inl qhbf)), (qhs, .inr (8, [.int 6, .int 3, .ref qhsc, .int qhsn])), (qhsc, .inl (g.2.2.1, 18, .inl qhsf)), (qhc, .inr (8, [.int 6, .int 2, .ref qhcc, .int qhcn])), (qhcc, .inl (g.2.2.1, 12, .inl qhcf)), (tl, .inr (3, [.ref ys, .ref yhn, .ref yht, .ref yhj, .ref yhm, .ref yhb, .ref yhs, .ref yhc])), (ys, .inr (7, [.ref yr, .ref ym, .ref yw, .ref yp, .int ymd, .int ytr])), (yr, .inr (8, [.int 8, .int 3, .ref yrc, .int yrn])), (yrc, .inl (g.2.2.1, 24, .inl yrf)), (ym, .inr (8, [.int 12, .int 3, .ref ymc, .int ymn])), (ymc, .inl (g.2.2.1, 36, .inl ymf)), (yw, .inr (8, [.int 6, .int 3, .ref ywc, .int ywn])), (ywc, .inl (g.2.2.1, 18, .inl ywf)), (yp, .inr (8, [.int 8, .int 2, .ref ypc, .int ypn])), (ypc, .inl (g.2.2.1, 16, .inl ypf)), (yhn, .inr (8, [.int 1, .int 6, .ref yhnc, .int yhnn])), (yhnc, .inl (g.2.2.1, 6, .inl yhnf)), (yht, .inr (8, [.int 4, .int 1, .ref yhtc, .int yhtn])), (yhtc, .inl (g.2.2.1, 4, .inl yhtf)), (yhj, .inr (8, [.int 8, .int 2, .ref yhjc, .int yhjn])), (yhjc, .inl (g.2.2.1, 16, .inl yhjf)), (yhm, .inr (8, [.int 4, .int 3, .ref yhmc, .int yhmn])), (yhmc, .inl (g.2.2.1, 12, .inl yhmf)), (yhb, .inr (8, [.int 1, .int 3, .ref yhbc, .int yhbn])), (yhbc, .inl (g.2.2.1, 3, .inl yhbf)), (yhs, .inr (8, [.int 6, .int 3, .ref yhsc, .int yhsn])), (yhsc, .inl (g.2.2.1, 18, .inl yhsf)), (yhc, .inr (8, [.int 6, .int 2, .ref yhcc, .int yhcn])), (yhcc, .inl (g.2.2.1, 12, .inl yhcf)), (nw, .inr (7, [.ref zr, .ref zm, .ref zw, .ref zp, .int zmd, .int ztr])), (zr, .inr (8, [.int 8, .int 3, .ref zrc, .int zrn])), (zrc, .inl (g.2.2.1, 24, .inl zrf)), (zm, .inr (8, [.int 12, .int 3, .ref zmc, .int zmn])), (zmc, .inl (g.2.2.1, 36, .inl zmf)), (zw, .inr (8, [.int 6, .int 3, .ref zwc, .int zwn])), (zwc, .inl (g.2.2.1, 18, .inl zwf)), (zp, .inr (8, [.int 8, .int 2, .ref zpc, .int zpn])), (zpc, .inl (g.2.2.1, 16, .inl zpf)), (kk, .inr (4, [.ref kah, .ref kig, .int kac, .int knx, .int kim])), (kah, .inl (g.2.2.2.2.1, 12, .inr (.inr (.inr (.inr kaf))))), (kig, .inl (g.2.2.2.2.1, 3, .inr (.inr (.inr (.inr kgf))))), (nn, .inr (5, [.ref nr, .int xsnapped, .int xmostSlip, .int xslip, .int xisDrawn, .int xseed, .int xtick, .int xmotorTick, .int xahead])), (nr, .inr (8, [.int 8, .int 10, .ref nrc, .int nrn])), (nrc, .inl (g.2.2.1, 80, .inl nrf)), (ac, .inr (0, [.ref al, .int xd])), (al, .inr (8, [.int 8, .int 1, .ref alc, .int aln])), (alc, .inl (g.2.2.1, 8, .inl alf)), (rd, .inr (6, [.ref rb, .int xa, .int xw])), (rb, .inr (8, [.int 4, .int 1, .ref rbc, .int rbn])), (rbc, .inl (g.2.2.1, 4, .inl rbf)), (xc, .inr (1, [.ref eo, .ref ep, .ref es])), (eo, .inr (8, [.int 8, .int 1, .ref eoc, .int eon])), (eoc, .inl (g.2.2.1, 8, .inl eof)), (ep, .inr (8, [.int 256, .int 1, .ref epc, .int epn])), (epc, .inl (g.2.2.1, 256, .inl epf)), (es, .inl (g.2.2.2.1, 8, .inr (.inl es_f))), (fr, .inr (2, [.long xu, .long xv]))] ++ pl)
/-- the reference -/
def MW (g : Gx) (mo : Nat) (m_taped : Int32) (mw : va_W) : Prop := ∃ (m_thrown m_size m_at m_end m_token m_whole m_nameSize m_fault m_place m_trouble m_failed m_hasHouse m_undos m_images m_bestSum m_nearest m_nearestTown m_seed1 m_darkNow : Int32) (a_tape a_letters a_r a_fresh a_st a_undone a_kept a_from a_begin a_motor a_change a_startFrame a_changeFrame a_lostAt a_blackAt a_slips a_leftArc a_died a_arcs a_there a_backAt a_sorted a_parts : Nat) (d_tape d_letters d_r d_fresh d_st d_undone d_kept d_from d_begin d_motor d_change d_startFrame d_changeFrame d_lostAt d_blackAt d_slips d_leftArc d_died d_arcs d_there d_backAt d_sorted d_parts : Nat → Int32), (IV m_size 0 900) ∧ (IV m_end 0 900) ∧ (IV m_nameSize 0 900) ∧ (IV m_failed 0 1) ∧ (IV m_hasHouse 0 1) ∧ (IV m_undos 0 12) ∧ (IV m_images 0 3) ∧ (IV m_taped 0 900) ∧ (RInv d_r) ∧ (RInv d_fresh) ∧ (TRI d_r) ∧ mw.Perm [(mo, .inr (11, [.int m_thrown, .ref a_tape, .int m_taped, .int m_size, .int m_at, .int m_end, .int m_token, .int m_whole, .int m_nameSize, .int m_fault, .int m_place, .int m_trouble, .ref a_letters, .int m_failed, .int m_hasHouse, .ref a_r, .ref a_fresh, .ref a_st, .ref a_undone, .ref a_kept, .int m_undos, .int m_images, .ref a_from, .ref a_begin, .ref a_motor, .ref a_change, .ref a_startFrame, .ref a_changeFrame, .ref a_lostAt, .ref a_blackAt, .ref a_slips, .ref a_leftArc, .ref a_died, .ref a_arcs, .int m_bestSum, .int m_nearest, .int m_nearestTown, .ref a_there, .ref a_backAt, .ref a_sorted, .ref a_parts, .int m_seed1, .int m_darkNow])), (a_tape, .inl (g.2.2.1, 900, .inl d_tape)), (a_letters, .inl (g.2.2.1, 8, .inl d_letters)), (a_r, .inl (g.2.2.1, 311, .inl d_r)), (a_fresh, .inl (g.2.2.1, 311, .inl d_fresh)), (a_st, .inl (g.2.2.1, 44, .inl d_st)), (a_undone, .inl (g.2.2.1, 528, .inl d_undone)), (a_kept, .inl (g.2.2.1, 132, .inl d_kept)), (a_from, .inl (g.2.2.1, 8, .inl d_from)), (a_begin, .inl (g.2.2.1, 8, .inl d_begin)), (a_motor, .inl (g.2.2.1, 8, .inl d_motor)), (a_change, .inl (g.2.2.1, 8, .inl d_change)), (a_startFrame, .inl (g.2.2.1, 8, .inl d_startFrame)), (a_changeFrame, .inl (g.2.2.1, 8, .inl d_changeFrame)), (a_lostAt, .inl (g.2.2.1, 8, .inl d_lostAt)), (a_blackAt, .inl (g.2.2.1, 8, .inl d_blackAt)), (a_slips, .inl (g.2.2.1, 8, .inl d_slips)), (a_leftArc, .inl (g.2.2.1, 8, .inl d_leftArc)), (a_died, .inl (g.2.2.1, 8, .inl d_died)), (a_arcs, .inl (g.2.2.1, 2, .inl d_arcs)), (a_there, .inl (g.2.2.1, 8, .inl d_there)), (a_backAt, .inl (g.2.2.1, 4, .inl d_backAt)), (a_sorted, .inl (g.2.2.1, 8, .inl d_sorted)), (a_parts, .inl (g.2.2.1, 256, .inl d_parts))]
def FeedR (t r t2 : Int32) : Prop := (900 < t.toInt + 20 → r = -1 ∧ t2 = t) ∧ (t.toInt + 20 ≤ 900 → r = t2 ∧ t2.toInt = t.toInt + 20)
theorem FeedR.eq {t r t2 r2 t3 : Int32} (h : FeedR t r t2) (k : FeedR t r2 t3) : r = r2 ∧ t2 = t3 := by
  rcases Int.lt_or_le 900 (t.toInt + 20) with q | q
  · obtain ⟨a, b⟩ := h.1 q
    obtain ⟨c, d⟩ := k.1 q
    exact ⟨a.trans c.symm, b.trans d.symm⟩
  · obtain ⟨a, b⟩ := h.2 q
    obtain ⟨c, d⟩ := k.2 q
    have e : t2 = t3 := Int32.toInt_inj.mp (b.trans d.symm)
    exact ⟨by rw [a, c, e], e⟩
def HouseR (t n t2 : Int32) : Prop := (n.toInt < 0 ∨ t.toInt < n.toInt → t2 = t) ∧ (0 ≤ n.toInt ∧ n.toInt ≤ t.toInt → t2 = 0)
theorem HouseR.eq {t n t2 t3 : Int32} (h : HouseR t n t2) (k : HouseR t n t3) : t2 = t3 := by
  by_cases q : n.toInt < 0 ∨ t.toInt < n.toInt
  · exact (h.1 q).trans (k.1 q).symm
  · exact (h.2 (by omega)).trans (k.2 (by omega)).symm
