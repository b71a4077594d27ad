theorem pm_nil (w : va_W) : w.Perm (w ++ []) := by rw [List.append_nil]
theorem pm_X {xw cells pl yw wr wc : va_W} (hpm : xw.Perm (cells ++ pl)) (h1 : cells.Perm (wr ++ wc)) : (xw ++ yw).Perm ((wr ++ (pl ++ yw)) ++ wc) := by
  refine ((hpm.trans (pm_t pl h1)).append_right yw).trans ?_
  rw [List.append_assoc, List.append_assoc, List.append_assoc, List.append_assoc]
  refine List.Perm.append_left _ ?_
  refine List.Perm.append_left pl ?_
  exact List.perm_append_comm
theorem pm_XT {xw cells pl yw wr wc : va_W} (hpm : xw.Perm (cells ++ pl)) (h1 : cells.Perm (wr ++ wc)) : (xw ++ yw).Perm ((wr ++ yw) ++ (wc ++ pl)) := by
  refine ((hpm.trans (pm_u pl h1)).append_right yw).trans ?_
  have q : (wr ++ (wc ++ pl) ++ yw).Perm (wr ++ yw ++ (wc ++ pl)) := by
    rw [List.append_assoc, List.append_assoc wr yw]
    exact List.Perm.append_left wr List.perm_append_comm
  simpa only [List.append_assoc] using q
theorem pm_M {mw cells xw ow wr wc : va_W} (hpm : mw.Perm cells) (h1 : cells.Perm (wr ++ wc)) : (xw ++ (mw ++ ow)).Perm ((wr ++ (xw ++ ow)) ++ wc) := by
  refine (List.Perm.append_left xw ((hpm.trans h1).append_right ow)).trans ?_
  have q1 : (xw ++ (wr ++ wc ++ ow)).Perm ((wr ++ wc) ++ (xw ++ ow)) := by
    exact List.perm_append_comm_assoc xw (wr ++ wc) ow
  refine q1.trans ?_
  rw [List.append_assoc wr (xw ++ ow) wc, List.append_assoc wr wc]
  exact List.Perm.append_left wr List.perm_append_comm
theorem pm_backX {wr pl yw w : va_W} : ((wr ++ (pl ++ yw)) ++ w).Perm (((wr ++ w) ++ pl) ++ yw) := by
  rw [List.append_assoc, List.append_assoc, List.append_assoc, List.append_assoc]
  refine List.Perm.append_left wr ?_
  have q := List.perm_append_comm (l₁ := pl ++ yw) (l₂ := w)
  rw [List.append_assoc] at q
  exact q
theorem pm_backT {wr yw w pl : va_W} : ((wr ++ yw) ++ (w ++ pl)).Perm (((wr ++ w) ++ pl) ++ yw) := by
  rw [List.append_assoc, List.append_assoc, List.append_assoc]
  refine List.Perm.append_left wr ?_
  have q := List.perm_append_comm (l₁ := yw) (l₂ := w ++ pl)
  rw [List.append_assoc w pl yw] at q
  exact q
theorem pm_backM {wr xw ow w : va_W} : ((wr ++ (xw ++ ow)) ++ w).Perm (xw ++ ((wr ++ w) ++ ow)) := by
  have q1 : ((wr ++ (xw ++ ow)) ++ w).Perm ((xw ++ ow) ++ (wr ++ w)) := by
    refine (List.perm_append_comm.append_right w).trans ?_
    rw [List.append_assoc]
  refine q1.trans ?_
  rw [List.append_assoc]
  exact List.Perm.append_left xw List.perm_append_comm
def pkT : List Bool → va_W → va_W
  | [], a => a
  | _ :: _, [] => []
  | true :: bs, x :: a => x :: pkT bs a
  | false :: bs, _ :: a => pkT bs a
def pkF : List Bool → va_W → va_W
  | [], _ => []
  | _ :: _, [] => []
  | true :: bs, _ :: a => pkF bs a
  | false :: bs, x :: a => x :: pkF bs a
theorem pk_perm : ∀ (bs : List Bool) (a : va_W), a.Perm (pkT bs a ++ pkF bs a)
  | [], a => by rw [pkT, pkF, List.append_nil]
  | b :: bs, [] => by cases b <;> exact List.Perm.refl _
  | true :: bs, x :: a => List.Perm.cons x (pk_perm bs a)
  | false :: bs, x :: a => (List.Perm.cons x (pk_perm bs a)).trans (List.perm_middle.symm)
theorem pk_pick {cells wc : va_W} (bs : List Bool) (ws : va_W) (h : pkF bs cells = ws) (h2 : ws.Perm wc) : cells.Perm (pkT bs cells ++ wc) := (pk_perm bs cells).trans (List.Perm.append_left _ (by rw [h]; exact h2))
theorem pk_back {cells cells' w : va_W} (bs : List Bool) (ws : va_W) (h1 : pkT bs cells' = pkT bs cells) (h : pkF bs cells' = ws) (h2 : ws.Perm w) : (pkT bs cells ++ w).Perm cells' := by
  rw [← h1]
  exact (pk_pick bs ws h h2).symm
theorem pk_backR {cells cells' w pl : va_W} (bs : List Bool) (ws : va_W) (h1 : pkT bs cells' = pkT bs cells) (h : pkF bs cells' = ws) (h2 : ws.Perm w) : ((pkT bs cells ++ w) ++ pl).Perm (cells' ++ pl) := (pk_back bs ws h1 h h2).append_right pl
def uu {α : Type} (f : Nat → α) (i : Nat) (v : α) : Nat → α := fun j => cond (Nat.beq j i) v (f j)
def nth {α : Type} (d : α) : List α → Nat → α
  | [], _ => d
  | a :: _, 0 => a
  | _ :: l, n + 1 => nth d l n
-- the object: what its cells may hold; t bytes are taped
set_option maxRecDepth 100000 in
def XC (g : Gx) (h0 : Nat) (xtpd : Int32) (tpf : Nat → Int32) (xfn : Int32) (xfp : Int32) (tr : Int32) (xN : Nat → Nat) (xI : Nat → Int32) (xJ : Nat → Int64) (xG : Nat → (Nat → Int64)) (xF : Nat → (Nat → Int32)) (xK : Nat → (Nat → Option Nat)) : va_W := ((h0, .inr (10, [.ref (xN 0), .ref (xN 1), .ref (xN 2), .ref (xN 3), .ref (xN 4), .ref (xN 5), .ref (xN 6), .ref (xN 7), .ref (xN 8), .int tr])) :: ((xN 0), .inr (9, [.int xtpd, .ref (xN 9), .int xfn, .int xfp, .ref (xN 10), .int (xI 0), .ref (xN 11), .ref (xN 12), .int (xI 1), .int (xI 2), .int (xI 3), .int (xI 4), .long (xJ 0), .int (xI 5), .int (xI 6)])) :: ((xN 10), .inl (g.2.1, 900, .inl tpf)) :: ((xN 11), .inl (g.2.2.2.1, 16, .inr (.inl (xG 0)))) :: ((xN 12), .inr (8, [.int 16, .int 2, .ref (xN 13), .int (xI 7)])) :: ((xN 13), .inl (g.2.2.1, 32, .inl (xF 0))) :: ((xN 9), .inr (3, [.ref (xN 14), .ref (xN 15), .ref (xN 16), .ref (xN 17), .ref (xN 18), .ref (xN 19), .ref (xN 20), .ref (xN 21)])) :: ((xN 14), .inr (7, [.ref (xN 22), .ref (xN 23), .ref (xN 24), .ref (xN 25), .int (xI 8), .int (xI 9)])) :: ((xN 22), .inr (8, [.int 8, .int 3, .ref (xN 26), .int (xI 10)])) :: ((xN 26), .inl (g.2.2.1, 24, .inl (xF 1))) :: ((xN 23), .inr (8, [.int 12, .int 3, .ref (xN 27), .int (xI 11)])) :: ((xN 27), .inl (g.2.2.1, 36, .inl (xF 2))) :: ((xN 24), .inr (8, [.int 6, .int 3, .ref (xN 28), .int (xI 12)])) :: ((xN 28), .inl (g.2.2.1, 18, .inl (xF 3))) :: ((xN 25), .inr (8, [.int 8, .int 2, .ref (xN 29), .int (xI 13)])) :: ((xN 29), .inl (g.2.2.1, 16, .inl (xF 4))) :: ((xN 15), .inr (8, [.int 1, .int 6, .ref (xN 30), .int (xI 14)])) :: ((xN 30), .inl (g.2.2.1, 6, .inl (xF 5))) :: ((xN 16), .inr (8, [.int 4, .int 1, .ref (xN 31), .int (xI 15)])) :: ((xN 31), .inl (g.2.2.1, 4, .inl (xF 6))) :: ((xN 17), .inr (8, [.int 8, .int 2, .ref (xN 32), .int (xI 16)])) :: ((xN 32), .inl (g.2.2.1, 16, .inl (xF 7))) :: ((xN 18), .inr (8, [.int 4, .int 3, .ref (xN 33), .int (xI 17)])) :: ((xN 33), .inl (g.2.2.1, 12, .inl (xF 8))) :: ((xN 19), .inr (8, [.int 1, .int 3, .ref (xN 34), .int (xI 18)])) :: ((xN 34), .inl (g.2.2.1, 3, .inl (xF 9))) :: ((xN 20), .inr (8, [.int 6, .int 3, .ref (xN 35), .int (xI 19)])) :: ((xN 35), .inl (g.2.2.1, 18, .inl (xF 10))) :: ((xN 21), .inr (8, [.int 6, .int 2, .ref (xN 36), .int (xI 20)])) :: ((xN 36), .inl (g.2.2.1, 12, .inl (xF 11))) :: ((xN 1), .inr (3, [.ref (xN 37), .ref (xN 38), .ref (xN 39), .ref (xN 40), .ref (xN 41), .ref (xN 42), .ref (xN 43), .ref (xN 44)])) :: ((xN 37), .inr (7, [.ref (xN 45), .ref (xN 46), .ref (xN 47), .ref (xN 48), .int (xI 21), .int (xI 22)])) :: ((xN 45), .inr (8, [.int 8, .int 3, .ref (xN 49), .int (xI 23)])) :: ((xN 49), .inl (g.2.2.1, 24, .inl (xF 12))) :: ((xN 46), .inr (8, [.int 12, .int 3, .ref (xN 50), .int (xI 24)])) :: ((xN 50), .inl (g.2.2.1, 36, .inl (xF 13))) :: ((xN 47), .inr (8, [.int 6, .int 3, .ref (xN 51), .int (xI 25)])) :: ((xN 51), .inl (g.2.2.1, 18, .inl (xF 14))) :: ((xN 48), .inr (8, [.int 8, .int 2, .ref (xN 52), .int (xI 26)])) :: ((xN 52), .inl (g.2.2.1, 16, .inl (xF 15))) :: ((xN 38), .inr (8, [.int 1, .int 6, .ref (xN 53), .int (xI 27)])) :: ((xN 53), .inl (g.2.2.1, 6, .inl (xF 16))) :: ((xN 39), .inr (8, [.int 4, .int 1, .ref (xN 54), .int (xI 28)])) :: ((xN 54), .inl (g.2.2.1, 4, .inl (xF 17))) :: ((xN 40), .inr (8, [.int 8, .int 2, .ref (xN 55), .int (xI 29)])) :: ((xN 55), .inl (g.2.2.1, 16, .inl (xF 18))) :: ((xN 41), .inr (8, [.int 4, .int 3, .ref (xN 56), .int (xI 30)])) :: ((xN 56), .inl (g.2.2.1, 12, .inl (xF 19))) :: ((xN 42), .inr (8, [.int 1, .int 3, .ref (xN 57), .int (xI 31)])) :: ((xN 57), .inl (g.2.2.1, 3, .inl (xF 20))) :: ((xN 43), .inr (8, [.int 6, .int 3, .ref (xN 58), .int (xI 32)])) :: ((xN 58), .inl (g.2.2.1, 18, .inl (xF 21))) :: ((xN 44), .inr (8, [.int 6, .int 2, .ref (xN 59), .int (xI 33)])) :: ((xN 59), .inl (g.2.2.1, 12, .inl (xF 22))) :: ((xN 2), .inr (7, [.ref (xN 60), .ref (xN 61), .ref (xN 62), .ref (xN 63), .int (xI 34), .int (xI 35)])) :: ((xN 60), .inr (8, [.int 8, .int 3, .ref (xN 64), .int (xI 36)])) :: ((xN 64), .inl (g.2.2.1, 24, .inl (xF 23))) :: ((xN 61), .inr (8, [.int 12, .int 3, .ref (xN 65), .int (xI 37)])) :: ((xN 65), .inl (g.2.2.1, 36, .inl (xF 24))) :: ((xN 62), .inr (8, [.int 6, .int 3, .ref (xN 66), .int (xI 38)])) :: ((xN 66), .inl (g.2.2.1, 18, .inl (xF 25))) :: ((xN 63), .inr (8, [.int 8, .int 2, .ref (xN 67), .int (xI 39)])) :: ((xN 67), .inl (g.2.2.1, 16, .inl (xF 26))) :: ((xN 3), .inr (4, [.ref (xN 68), .ref (xN 69), .int (xI 40), .int (xI 41), .int (xI 42)])) :: ((xN 68), .inl (g.2.2.2.2.1, 12, .inr (.inr (.inr (.inr (xK 0)))))) :: ((xN 69), .inl (g.2.2.2.2.1, 3, .inr (.inr (.inr (.inr (xK 1)))))) :: ((xN 4), .inr (5, [.ref (xN 70), .int (xI 43), .int (xI 44), .int (xI 45), .int (xI 46), .int (xI 47), .int (xI 48), .int (xI 49), .int (xI 50)])) :: ((xN 70), .inr (8, [.int 8, .int 10, .ref (xN 71), .int (xI 51)])) :: ((xN 71), .inl (g.2.2.1, 80, .inl (xF 27))) :: ((xN 5), .inr (0, [.ref (xN 72), .int (xI 52)])) :: ((xN 72), .inr (8, [.int 8, .int 1, .ref (xN 73), .int (xI 53)])) :: ((xN 73), .inl (g.2.2.1, 8, .inl (xF 28))) :: ((xN 6), .inr (6, [.ref (xN 74), .int (xI 54), .int (xI 55)])) :: ((xN 74), .inr (8, [.int 4, .int 1, .ref (xN 75), .int (xI 56)])) :: ((xN 75), .inl (g.2.2.1, 4, .inl (xF 29))) :: ((xN 7), .inr (1, [.ref (xN 76), .ref (xN 77), .ref (xN 78)])) :: ((xN 76), .inr (8, [.int 8, .int 1, .ref (xN 79), .int (xI 57)])) :: ((xN 79), .inl (g.2.2.1, 8, .inl (xF 30))) :: ((xN 77), .inr (8, [.int 256, .int 1, .ref (xN 80), .int (xI 58)])) :: ((xN 80), .inl (g.2.2.1, 256, .inl (xF 31))) :: ((xN 78), .inl (g.2.2.2.1, 8, .inr (.inl (xG 1)))) :: ((xN 8), .inr (2, [.long (xJ 1), .long (xJ 2)])) :: [])
def XW (g : Gx) (h0 : Nat) (xtpd : Int32) (tpf : Nat → Int32) (xfn : Int32) (xfp : Int32) (tr : Int32) (wX : va_W) : Prop := ∃ (xN : Nat → Nat) (xI : Nat → Int32) (xJ : Nat → Int64) (xG : Nat → (Nat → Int64)) (xF : Nat → (Nat → Int32)) (xK : Nat → (Nat → Option Nat)) (as : List Nat) (pl : va_W), (IV (xI 0) 0 900) ∧ (IV (xI 2) 0 900) ∧ (IV (xI 3) 0 900) ∧ (IV xtpd 0 900) ∧ (IV (xI 40) 0 12) ∧ (IV (xI 41) 0 11) ∧ (IV (xI 42) 0 3) ∧ (¬ (xI 44) < 0) ∧ (PL g as pl) ∧ (∀ i : Nat, i < 12 → (xK 0) i = as[i]?) ∧ (∀ i : Nat, i < 3 → (xK 1) i = as[12 + i]?) ∧ (as.length = 15) ∧ wX.Perm ((XC g h0 xtpd tpf xfn xfp tr xN xI xJ xG xF xK) ++ pl)
-- the reference
set_option maxRecDepth 100000 in
def MC (g : Gx) (mo : Nat) (m_taped : Int32) (d_tape : Nat → Int32) (m_fault : Int32) (m_place : Int32) (m_trouble : Int32) (mI : Nat → Int32) (mN : Nat → Nat) (mF : Nat → (Nat → Int32)) : va_W := ((mo, .inr (11, (.int (mI 0) :: .ref (mN 0) :: .int m_taped :: .int (mI 1) :: .int (mI 2) :: .int (mI 3) :: .int (mI 4) :: .int (mI 5) :: .int (mI 6) :: .int m_fault :: .int m_place :: .int m_trouble :: .ref (mN 1) :: .int (mI 7) :: .int (mI 8) :: .ref (mN 2) :: .ref (mN 3) :: .ref (mN 4) :: .ref (mN 5) :: .ref (mN 6) :: .int (mI 9) :: .int (mI 10) :: .ref (mN 7) :: .ref (mN 8) :: .ref (mN 9) :: .ref (mN 10) :: .ref (mN 11) :: .ref (mN 12) :: .ref (mN 13) :: .ref (mN 14) :: .ref (mN 15) :: .ref (mN 16) :: .ref (mN 17) :: .ref (mN 18) :: .int (mI 11) :: .int (mI 12) :: .int (mI 13) :: .ref (mN 19) :: .ref (mN 20) :: .ref (mN 21) :: .ref (mN 22) :: .int (mI 14) :: .int (mI 15) :: []))) :: ((mN 0), .inl (g.2.2.1, 900, .inl d_tape)) :: ((mN 1), .inl (g.2.2.1, 8, .inl (mF 0))) :: ((mN 2), .inl (g.2.2.1, 311, .inl (mF 1))) :: ((mN 3), .inl (g.2.2.1, 311, .inl (mF 2))) :: ((mN 4), .inl (g.2.2.1, 44, .inl (mF 3))) :: ((mN 5), .inl (g.2.2.1, 528, .inl (mF 4))) :: ((mN 6), .inl (g.2.2.1, 132, .inl (mF 5))) :: ((mN 7), .inl (g.2.2.1, 8, .inl (mF 6))) :: ((mN 8), .inl (g.2.2.1, 8, .inl (mF 7))) :: ((mN 9), .inl (g.2.2.1, 8, .inl (mF 8))) :: ((mN 10), .inl (g.2.2.1, 8, .inl (mF 9))) :: ((mN 11), .inl (g.2.2.1, 8, .inl (mF 10))) :: ((mN 12), .inl (g.2.2.1, 8, .inl (mF 11))) :: ((mN 13), .inl (g.2.2.1, 8, .inl (mF 12))) :: ((mN 14), .inl (g.2.2.1, 8, .inl (mF 13))) :: ((mN 15), .inl (g.2.2.1, 8, .inl (mF 14))) :: ((mN 16), .inl (g.2.2.1, 8, .inl (mF 15))) :: ((mN 17), .inl (g.2.2.1, 8, .inl (mF 16))) :: ((mN 18), .inl (g.2.2.1, 2, .inl (mF 17))) :: ((mN 19), .inl (g.2.2.1, 8, .inl (mF 18))) :: ((mN 20), .inl (g.2.2.1, 4, .inl (mF 19))) :: ((mN 21), .inl (g.2.2.1, 8, .inl (mF 20))) :: ((mN 22), .inl (g.2.2.1, 256, .inl (mF 21))) :: [])
def MW (g : Gx) (mo : Nat) (m_taped : Int32) (d_tape : Nat → Int32) (m_fault : Int32) (m_place : Int32) (m_trouble : Int32) (wM : va_W) : Prop := ∃ (mI : Nat → Int32) (mN : Nat → Nat) (mF : Nat → (Nat → Int32)), (IV (mI 1) 0 900) ∧ (IV (mI 3) 0 900) ∧ (IV (mI 6) 0 900) ∧ (IV (mI 7) 0 1) ∧ (IV (mI 8) 0 1) ∧ (IV (mI 9) 0 12) ∧ (IV (mI 10) 0 3) ∧ (IV m_taped 0 900) ∧ (RInv (mF 1)) ∧ (RInv (mF 2)) ∧ (TRI (mF 1)) ∧ wM.Perm (MC g mo m_taped d_tape m_fault m_place m_trouble mI mN mF)
