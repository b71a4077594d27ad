set_option maxRecDepth 100000
set_option maxHeartbeats 4000000
def fpk (p0 p1 p2 p3 p4 u : Int32) : Int32 := if 4 ≤ u then (if 8 ≤ u then (if 12 ≤ u then (if 16 ≤ u then p4 else p3) else p2) else p1) else p0
def fby (p u : Int32) : Int32 := (p >>> (((24 : Int32) - (8 : Int32) * (u - u / (4 : Int32) * (4 : Int32))) &&& 31)) &&& (255 : Int32)
def fdT (p0 p1 p2 p3 p4 : Int32) : Nat → Int32 → Int32 → (Nat → Int32) → (Nat → Int32)
  | 0, _, _, F => F
  | m + 1, u, k, F => fdT p0 p1 p2 p3 p4 m (u + 1) (k + 1) (upd F k.toNatClampNeg (fby (fpk p0 p1 p2 p3 p4 u) u))
def fdK : Nat → Int32 → Int32
  | 0, k => k
  | m + 1, k => fdK m (k + 1)
theorem fd_step {p0 p1 p2 p3 p4 u k : Int32} {κ : (Nat → Int32) → Int32 → Prop} {n : Nat} {F : Nat → Int32} (h : R_m_feedX_L0 p0 p1 p2 p3 p4 κ n F u k) : (20 ≤ u ∧ κ F k) ∨ (¬ 20 ≤ u ∧ ∃ m, R_m_feedX_L0 p0 p1 p2 p3 p4 κ m (upd F k.toNatClampNeg (fby (fpk p0 p1 p2 p3 p4 u) u)) (u + 1) (k + 1)) := by
  cases n with
  | zero => exact h.elim
  | succ n =>
    unfold R_m_feedX_L0 at h
    rcases h with h | ⟨hu, h⟩
    · exact Or.inl h
    refine Or.inr ⟨hu, n, ?_⟩
    unfold fby fpk
    rcases h with ⟨q4, h⟩ | ⟨q4, h⟩
    · rw [if_pos q4]
      rcases h with ⟨q8, h⟩ | ⟨q8, h⟩
      · rw [if_pos q8]
        rcases h with ⟨q12, h⟩ | ⟨q12, h⟩
        · rw [if_pos q12]
          rcases h with ⟨q16, h⟩ | ⟨q16, h⟩
          · rw [if_pos q16]
            obtain ⟨_, rfl, _, rfl, _, rfl, _, rfl, _, rfl, _, rfl, _, rfl, h⟩ := h
            exact h
          · rw [if_neg q16]
            obtain ⟨_, rfl, _, rfl, _, rfl, _, rfl, _, rfl, _, rfl, _, rfl, h⟩ := h
            exact h
        · rw [if_neg q12]
          obtain ⟨_, rfl, _, rfl, _, rfl, _, rfl, _, rfl, _, rfl, _, rfl, h⟩ := h
          exact h
      · rw [if_neg q8]
        obtain ⟨_, rfl, _, rfl, _, rfl, _, rfl, _, rfl, _, rfl, _, rfl, h⟩ := h
        exact h
    · rw [if_neg q4]
      obtain ⟨_, rfl, _, rfl, _, rfl, _, rfl, _, rfl, _, rfl, _, rfl, h⟩ := h
      exact h
theorem fd_all {p0 p1 p2 p3 p4 : Int32} {κ : (Nat → Int32) → Int32 → Prop} : ∀ (m : Nat) (u k : Int32) (n : Nat) (F : Nat → Int32), 0 ≤ u.toInt → u.toInt + m = 20 → R_m_feedX_L0 p0 p1 p2 p3 p4 κ n F u k → κ (fdT p0 p1 p2 p3 p4 m u k F) (fdK m k) := by
  intro m
  induction m with
  | zero =>
    intro u k n F hu0 hu h
    rcases fd_step h with ⟨-, h⟩ | ⟨q, -⟩
    · exact h
    · refine absurd (Int32.le_iff_toInt_le.mpr ?_) q
      have e : (20 : Int32).toInt = 20 := by decide
      omega
  | succ m ih =>
    intro u k n F hu0 hu h
    have e : (20 : Int32).toInt = 20 := by decide
    rcases fd_step h with ⟨q, -⟩ | ⟨-, n2, h⟩
    · have := Int32.le_iff_toInt_le.mp q
      omega
    · have e1 : (u + 1).toInt = u.toInt + 1 := by
        have o : (1 : Int32).toInt = 1 := by decide
        rw [Int32.toInt_add, o, Int.bmod_eq_of_le (by omega) (by omega)]
      exact ih (u + 1) (k + 1) n2 _ (by omega) (by omega) h
theorem sx_and (x : Int32) : sx (x &&& 255) = x.toInt8.toInt32 := by
  have e : (255 : Int32).toInt8 = -1 := by decide
  unfold sx
  rw [Int32.toInt8_and, e, Int8.and_neg_one]
theorem nar_byte (x : Int32) : vp_nar .byte (x.toInt8.toInt32) = x.toInt8.toInt32 := by
  show (x.toInt8.toInt32).toInt8.toInt32 = x.toInt8.toInt32
  rw [Int8.toInt8_toInt32]
theorem iv_byte (x : Int32) : IV (x &&& 255) 0 255 := by
  exact iv_and (Int32.and_comm _ _) (show IV 255 255 255 from (by decide)) (by decide)
theorem TpR_upd {tp T : Nat → Int32} {i : Nat} {p s u : Int32} (h : TpR tp T) (hs : ((24 : Int32) - (8 : Int32) * (u - u / (4 : Int32) * (4 : Int32))) &&& 31 = s &&& 31) : TpR (upd tp i (vp_nar .byte ((p >>> (s &&& 31)).toInt8.toInt32))) (upd T i (fby p u)) := by
  intro j hj
  unfold upd fby
  rw [hs]
  by_cases q : j = i
  · rw [if_pos q, if_pos q, nar_byte, sx_and]
    exact ⟨iv_byte _, rfl⟩
  · rw [if_neg q, if_neg q]
    exact h j hj
theorem q_feed {p0 p1 p2 p3 p4 t t2 t3 th r r2 : Int32} {tp T tp2 T2 : Nat → Int32} (hx : R_c_feedX p0 p1 p2 p3 p4 t tp t2 tp2 r) (hm : R_m_feedX p0 p1 p2 p3 p4 t T T2 t3 th r2) (h : TpR tp T) : t2 = t3 ∧ TpR tp2 T2 ∧ r = r2 := by
  obtain ⟨_, rfl, hx⟩ := hx
  obtain ⟨_, rfl, hm⟩ := hm
  rcases hx with ⟨q, hx⟩ | ⟨q, rfl, rfl, rfl⟩
  · rcases hm with ⟨-, n, hm⟩ | ⟨q2, -⟩
    · obtain ⟨rfl, rfl, -, rfl⟩ := fd_all 20 0 t n T (by decide) (by decide) hm
      obtain ⟨t5, tp5, ⟨_, rfl, _, rfl, _, rfl, _, rfl, _, rfl, _, rfl, _, rfl, _, rfl, _, rfl, _, rfl, _, rfl, _, rfl, rfl, rfl⟩, hx⟩ := hx
      obtain ⟨t5, tp5, ⟨_, rfl, _, rfl, _, rfl, _, rfl, _, rfl, _, rfl, _, rfl, _, rfl, _, rfl, _, rfl, _, rfl, _, rfl, rfl, rfl⟩, hx⟩ := hx
      obtain ⟨t5, tp5, ⟨_, rfl, _, rfl, _, rfl, _, rfl, _, rfl, _, rfl, _, rfl, _, rfl, _, rfl, _, rfl, _, rfl, _, rfl, rfl, rfl⟩, hx⟩ := hx
      obtain ⟨t5, tp5, ⟨_, rfl, _, rfl, _, rfl, _, rfl, _, rfl, _, rfl, _, rfl, _, rfl, _, rfl, _, rfl, _, rfl, _, rfl, rfl, rfl⟩, hx⟩ := hx
      obtain ⟨t5, tp5, ⟨_, rfl, _, rfl, _, rfl, _, rfl, _, rfl, _, rfl, _, rfl, _, rfl, _, rfl, _, rfl, _, rfl, _, rfl, rfl, rfl⟩, rfl, rfl, rfl⟩ := hx
      refine ⟨rfl, ?_, rfl⟩
      unfold fdT fdT fdT fdT fdT fdT fdT fdT fdT fdT fdT fdT fdT fdT fdT fdT fdT fdT fdT fdT fdT
      refine TpR_upd ?_ (by decide)
      refine TpR_upd ?_ (by decide)
      refine TpR_upd ?_ (by decide)
      refine TpR_upd ?_ (by decide)
      refine TpR_upd ?_ (by decide)
      refine TpR_upd ?_ (by decide)
      refine TpR_upd ?_ (by decide)
      refine TpR_upd ?_ (by decide)
      refine TpR_upd ?_ (by decide)
      refine TpR_upd ?_ (by decide)
      refine TpR_upd ?_ (by decide)
      refine TpR_upd ?_ (by decide)
      refine TpR_upd ?_ (by decide)
      refine TpR_upd ?_ (by decide)
      refine TpR_upd ?_ (by decide)
      refine TpR_upd ?_ (by decide)
      refine TpR_upd ?_ (by decide)
      refine TpR_upd ?_ (by decide)
      refine TpR_upd ?_ (by decide)
      refine TpR_upd ?_ (by decide)
      exact h
    · exact absurd q q2
  · rcases hm with ⟨q2, -⟩ | ⟨-, rfl, rfl, -, rfl⟩
    · exact absurd q2 q
    · exact ⟨rfl, h, rfl⟩

def NZ {α : Type} (x : Rs α) : Prop := ∀ e : Int32 × Int32, x = .inl e → e.1 ≠ 0
theorem NZ_l {α : Type} {k a : Int32} (h : k ≠ 0) : NZ (α := α) (.inl (k, a)) := fun e q => by cases q; exact h
theorem NZ_r {α : Type} (v : α) : NZ (α := α) (.inr v) := fun e q => by cases q
theorem NZ_ite {α : Type} {c : Prop} {d : Decidable c} {x y : Rs α} (hx : NZ x) (hy : NZ y) : NZ (@ite _ c d x y) := by
  by_cases q : c
  · rw [if_pos q]; exact hx
  · rw [if_neg q]; exact hy
theorem NZ_bnd {α β : Type} {x : Rs α} {f : α → Rs β} (hx : NZ x) (hf : ∀ v, NZ (f v)) : NZ (bnd x f) := by
  cases x with
  | inl e => intro e2 q; exact hx e2 (by rw [Sum.inl.inj q])
  | inr v => exact hf v
theorem NZ_labS {T : Nat → Int32} {n : Int32} {w : String} {a : Int32} : NZ (labS T n w a) := by
  unfold labS
  exact (NZ_ite (NZ_r _) (NZ_l (by decide)))
theorem NZ_numH {T : Nat → Int32} {n : Int32} {lo hi a : Int32} : NZ (numH T n lo hi a) := by
  unfold numH
  exact (NZ_ite (NZ_ite (NZ_l (by decide)) (NZ_ite (NZ_l (by decide)) (NZ_r _))) (NZ_l (by decide)))
theorem NZ_numS {T : Nat → Int32} {n : Int32} {lo hi a : Int32} : NZ (numS T n lo hi a) := by
  unfold numS
  exact (NZ_bnd (NZ_numH) (fun _ => (NZ_r _)))
theorem NZ_newS {F T : Nat → Int32} {n : Int32} {s : Nat} {a : Int32} : NZ (newS F T n s a) := by
  unfold newS
  exact (NZ_ite (NZ_ite (NZ_r _) (NZ_l (by decide))) (NZ_l (by decide)))
theorem NZ_oldS {F T : Nat → Int32} {n : Int32} {lo hi a : Int32} : NZ (oldS F T n lo hi a) := by
  unfold oldS
  exact (NZ_ite (NZ_ite (NZ_l (by decide)) (NZ_ite (NZ_l (by decide)) (NZ_r _))) (NZ_l (by decide)))
theorem NZ_aftS {T : Nat → Int32} {n : Int32} {w : String} {lo hi a : Int32} : NZ (aftS T n w lo hi a) := by
  unfold aftS
  exact (NZ_bnd (NZ_labS) (fun _ => NZ_numS))
theorem NZ_houseS {F T : Nat → Int32} {n : Int32} {a : Int32} : NZ (houseS F T n a) := by
  unfold houseS
  exact (NZ_ite (NZ_l (by decide)) (NZ_bnd (NZ_aftS) (fun _ => (NZ_bnd (NZ_aftS) (fun _ => (NZ_bnd (NZ_aftS) (fun _ => (NZ_bnd (NZ_aftS) (fun _ => (NZ_bnd (NZ_aftS) (fun _ => (NZ_bnd (NZ_aftS) (fun _ => (NZ_r _))))))))))))))
theorem NZ_reelS {F T : Nat → Int32} {n : Int32} {a : Int32} : NZ (reelS F T n a) := by
  unfold reelS
  exact (NZ_bnd (NZ_newS) (fun _ => (NZ_bnd (NZ_aftS) (fun _ => (NZ_bnd (NZ_aftS) (fun _ => (NZ_bnd (NZ_aftS) (fun _ => (NZ_r _)))))))))
theorem NZ_townS {F T : Nat → Int32} {n : Int32} {a : Int32} : NZ (townS F T n a) := by
  unfold townS
  exact (NZ_bnd (NZ_newS) (fun _ => (NZ_bnd (NZ_aftS) (fun _ => (NZ_r _)))))
theorem NZ_boysS {F T : Nat → Int32} {n : Int32} {a : Int32} : NZ (boysS F T n a) := by
  unfold boysS
  exact (NZ_bnd (NZ_numS) (fun _ => (NZ_bnd (NZ_aftS) (fun _ => (NZ_bnd (NZ_aftS) (fun _ => (NZ_r _)))))))
theorem NZ_seenS {F T : Nat → Int32} {n : Int32} {a : Int32} : NZ (seenS F T n a) := by
  unfold seenS
  exact (NZ_ite (NZ_l (by decide)) (NZ_ite (NZ_l (by decide)) (NZ_ite (NZ_l (by decide)) (NZ_bnd (NZ_numS) (fun _ => (NZ_bnd (NZ_aftS) (fun _ => (NZ_bnd (NZ_aftS) (fun _ => (NZ_r _))))))))))
theorem NZ_reelP {F T : Nat → Int32} {n : Int32} {a : Int32} : NZ (reelP F T n a) := by
  unfold reelP
  exact (NZ_bnd (NZ_oldS) (fun _ => (NZ_r _)))
theorem NZ_joinS {F T : Nat → Int32} {n : Int32} {a : Int32} : NZ (joinS F T n a) := by
  unfold joinS
  exact (NZ_bnd (NZ_reelP) (fun _ => (NZ_bnd (NZ_numS) (fun _ => (NZ_bnd (NZ_aftS) (fun _ => (NZ_r _)))))))
theorem NZ_scratchS {F T : Nat → Int32} {n : Int32} {a : Int32} : NZ (scratchS F T n a) := by
  unfold scratchS
  exact (NZ_bnd (NZ_reelP) (fun _ => (NZ_bnd (NZ_numS) (fun _ => (NZ_r _)))))
theorem NZ_opnS {F T : Nat → Int32} {n : Int32} {p a : Int32} : NZ (opnS F T n p a) := by
  unfold opnS
  exact (NZ_ite (NZ_l (by decide)) (NZ_ite (NZ_l (by decide)) (NZ_r _)))
theorem NZ_onceS {F T : Nat → Int32} {n : Int32} {p a : Int32} : NZ (onceS F T n p a) := by
  unfold onceS
  exact (NZ_ite (NZ_ite (NZ_l (by decide)) (NZ_r _)) (NZ_l (by decide)))
theorem NZ_markS {F T : Nat → Int32} {n : Int32} {a : Int32} : NZ (markS F T n a) := by
  unfold markS
  exact (NZ_bnd (NZ_reelP) (fun _ => (NZ_bnd (NZ_numS) (fun _ => (NZ_bnd (NZ_labS) (fun _ => (NZ_bnd (NZ_oldS) (fun _ => (NZ_ite (NZ_l (by decide)) (NZ_r _))))))))))
theorem NZ_weakS {F T : Nat → Int32} {n : Int32} {a : Int32} : NZ (weakS F T n a) := by
  unfold weakS
  exact (NZ_bnd (NZ_reelP) (fun _ => (NZ_bnd (NZ_numH) (fun _ => (NZ_ite (NZ_l (by decide)) (NZ_bnd (NZ_aftS) (fun _ => (NZ_r _))))))))
theorem NZ_showE {T : Nat → Int32} {n : Int32} {m : Nat} {F : Nat → Int32} {b : Int32} : NZ (showE T n m F b) := by
  unfold showE
  exact (NZ_ite (NZ_ite (NZ_l (by decide)) (NZ_ite (NZ_l (by decide)) (NZ_l (by decide)))) (NZ_r _))
theorem NZ_showG (T : Nat → Int32) (n : Int32) : ∀ (f m : Nat) (F : Nat → Int32) (a : Int32), 9 ≤ f + m → m ≤ 8 → NZ (showG T n f m F a) := by
  intro f
  induction f with
  | zero => intro m F a h1 h2; omega
  | succ f ih =>
    intro m F a h1 h2
    rw [showG]
    refine NZ_bnd NZ_oldS (fun r => ?_)
    by_cases q : m = 8
    · rw [if_pos q]; exact NZ_l (by decide)
    · rw [if_neg q]
      refine NZ_ite ?_ NZ_showE
      exact ih _ _ _ (by omega) (by omega)
theorem NZ_showS {F T : Nat → Int32} {n a : Int32} : NZ (showS F T n a) := NZ_showG T n 9 0 F a (by omega) (by omega)
theorem NZ_manE {F0 T : Nat → Int32} {n : Int32} {s : Nat} {kind town c a : Int32} : NZ (manE F0 T n s kind town c a) := by
  unfold manE
  exact (NZ_bnd (NZ_aftS) (fun _ => (NZ_r _)))
theorem NZ_manS {F T : Nat → Int32} {n : Int32} {a : Int32} : NZ (manS F T n a) := by
  unfold manS
  exact (NZ_bnd (NZ_newS) (fun _ => (NZ_ite (NZ_manE) (NZ_ite (NZ_manE) (NZ_ite (NZ_manE) (NZ_ite (NZ_bnd (NZ_oldS) (fun _ => (NZ_manE))) (NZ_l (by decide))))))))
theorem NZ_lineS {F T : Nat → Int32} {n : Int32} {a : Int32} : NZ (lineS F T n a) := by
  unfold lineS
  exact (NZ_ite (NZ_houseS) (NZ_ite (NZ_bnd (NZ_opnS) (fun _ => NZ_reelS)) (NZ_ite (NZ_bnd (NZ_opnS) (fun _ => NZ_townS)) (NZ_ite (NZ_bnd (NZ_opnS) (fun _ => NZ_markS)) (NZ_ite (NZ_bnd (NZ_opnS) (fun _ => NZ_joinS)) (NZ_ite (NZ_bnd (NZ_opnS) (fun _ => NZ_weakS)) (NZ_ite (NZ_bnd (NZ_opnS) (fun _ => NZ_manS)) (NZ_ite (NZ_bnd (NZ_onceS) (fun _ => NZ_showS)) (NZ_ite (NZ_bnd (NZ_onceS) (fun _ => NZ_boysS)) (NZ_ite (NZ_seenS) (NZ_ite (NZ_bnd (NZ_opnS) (fun _ => NZ_scratchS)) (NZ_l (by decide)))))))))))))
theorem NZ_text {T : Nat → Int32} {n : Int32} : ∀ (k : Nat) (F : Nat → Int32) (a : Int32) (e : Int32 × Int32), TxR T n k F a (.inl e) → e.1 ≠ 0 := by
  intro k
  induction k with
  | zero => intro F a e h; exact h.elim
  | succ k ih =>
    intro F a e h
    rw [TxR] at h
    rcases h.2 with ⟨e2, h1, h2⟩ | ⟨v, h1, h2⟩
    · cases h2
      exact NZ_lineS _ h1
    · rcases h2 with ⟨-, h2⟩ | ⟨-, ⟨-, h2⟩ | ⟨-, h2⟩⟩ | ⟨-, -, h2⟩
      · exact ih _ _ _ h2
      · cases h2; exact (show (6 : Int32) ≠ 0 from by decide)
      · cases h2
      · cases h2; exact (show (1 : Int32) ≠ 0 from by decide)
