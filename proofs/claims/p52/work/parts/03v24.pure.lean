set_option maxRecDepth 100000
set_option maxHeartbeats 4000000
theorem add1z {u z : Int32} {m : Nat} (hu : u.toInt = m) (hm : m < 1000) (hz : u + Int32.ofInt 1 = z) : z.toInt = m + 1 := by
  have o : (Int32.ofInt 1).toInt = 1 := by decide
  rw [← hz, Int32.toInt_add, o, hu, Int.bmod_eq_of_le (by omega) (by omega)]
theorem addz {a b z : Int32} {x y : Nat} (ha : a.toInt = x) (hb : b.toInt = y) (hx : x + y < 10000) (hz : z = a + b) : z.toNatClampNeg = x + y := by
  have e : z.toInt = x + y := by rw [hz, Int32.toInt_add, ha, hb, Int.bmod_eq_of_le (by omega) (by omega)]
  have := tn_i (z := z) (by omega)
  omega
theorem tnz {z : Int32} {x : Nat} (h : z.toInt = x) : z.toNatClampNeg = x := by
  have := tn_i (z := z) (by omega)
  omega
theorem cpA_L {p3 : Int32} {f1 f2 : Nat → Int32} {κ : (Nat → Int32) → Prop} {P : Nat} (hp : p3.toInt = P) (hP : P ≤ 484) : ∀ (n : Nat) (f : Nat → Int32) (u : Int32) (m : Nat), u.toInt = m → m ≤ 44 → (∀ i : Nat, i < m → f (P + i) = f1 i) → (∀ i : Nat, (i < P ∨ P + m ≤ i) → f i = f2 i) → R_m_copyAX_L0 p3 f1 κ n f u → ∃ f3 : Nat → Int32, κ f3 ∧ (∀ i : Nat, i < 44 → f3 (P + i) = f1 i) ∧ (∀ i : Nat, (i < P ∨ P + 44 ≤ i) → f3 i = f2 i) := by
  intro n
  induction n with
  | zero => intro f u m _ _ _ _ h; exact h.elim
  | succ n ih =>
    intro f u m hu hm h1 h2 h
    have e44 : (44 : Int32).toInt = 44 := by decide
    unfold R_m_copyAX_L0 at h
    rcases h with ⟨q, h⟩ | ⟨q, z12, hz12, z15, hz15, z18, hz18, z20, hz20, h⟩
    · rw [le_I, e44] at q
      obtain rfl : m = 44 := by omega
      exact ⟨f, h, h1, h2⟩
    · rw [le_I, e44] at q
      have c12 := addz hp hu (by omega) hz12
      have c15 := (addz (a := 0) (x := 0) (by decide) hu (by omega) hz15)
      rw [c15] at hz18
      rw [c12] at h
      refine ih _ z20 (m + 1) (by rw [add1z hu (by omega) hz20]; omega) (by omega) ?_ ?_ h
      · intro i hi
        by_cases e : i = m
        · subst e
          rw [upd_at, hz18, Nat.zero_add]
        · rw [upd_ne (by omega)]; exact h1 i (by omega)
      · intro i hi
        rw [upd_ne (by omega)]; exact h2 i (by omega)
theorem cpA {p3 : Int32} {f1 f2 f3 : Nat → Int32} {P : Nat} (hp : p3.toInt = P) (hP : P ≤ 484) (h : R_m_copyAX p3 f1 f2 f3) : (∀ i : Nat, i < 44 → f3 (P + i) = f1 i) ∧ (∀ i : Nat, (i < P ∨ P + 44 ≤ i) → f3 i = f2 i) := by
  obtain ⟨n, h⟩ := h
  obtain ⟨f4, rfl, h1, h2⟩ := cpA_L hp hP n f2 0 0 (by decide) (by omega) (fun i hi => by omega) (fun i _ => rfl) h
  exact ⟨h1, h2⟩
theorem cpB_L {p1 : Int32} {f1 f2 : Nat → Int32} {κ : (Nat → Int32) → Prop} {P : Nat} (hp : p1.toInt = P) (hP : P ≤ 484) : ∀ (n : Nat) (f : Nat → Int32) (u : Int32) (m : Nat), u.toInt = m → m ≤ 44 → (∀ i : Nat, i < m → f i = f1 (P + i)) → (∀ i : Nat, m ≤ i → f i = f2 i) → R_m_copyBX_L0 p1 f1 κ n f u → ∃ f3 : Nat → Int32, κ f3 ∧ (∀ i : Nat, i < 44 → f3 i = f1 (P + i)) ∧ (∀ i : Nat, 44 ≤ i → f3 i = f2 i) := by
  intro n
  induction n with
  | zero => intro f u m _ _ _ _ h; exact h.elim
  | succ n ih =>
    intro f u m hu hm h1 h2 h
    have e44 : (44 : Int32).toInt = 44 := by decide
    unfold R_m_copyBX_L0 at h
    rcases h with ⟨q, h⟩ | ⟨q, z12, hz12, z15, hz15, z18, hz18, z20, hz20, h⟩
    · rw [le_I, e44] at q
      obtain rfl : m = 44 := by omega
      exact ⟨f, h, h1, h2⟩
    · rw [le_I, e44] at q
      have c12 := addz (a := 0) (x := 0) (by decide) hu (by omega) hz12
      have c15 := (addz hp hu (by omega) hz15)
      rw [c15] at hz18
      rw [c12] at h
      refine ih _ z20 (m + 1) (by rw [add1z hu (by omega) hz20]; omega) (by omega) ?_ ?_ h
      · intro i hi
        by_cases e : i = m
        · subst e
          rw [Nat.zero_add, upd_at, hz18]
        · rw [upd_ne (by omega)]; exact h1 i (by omega)
      · intro i hi
        rw [upd_ne (by omega)]; exact h2 i (by omega)
theorem cpB {p1 : Int32} {f1 f2 f3 : Nat → Int32} {P : Nat} (hp : p1.toInt = P) (hP : P ≤ 484) (h : R_m_copyBX p1 f1 f2 f3) : (∀ i : Nat, i < 44 → f3 i = f1 (P + i)) ∧ (∀ i : Nat, 44 ≤ i → f3 i = f2 i) := by
  obtain ⟨n, h⟩ := h
  obtain ⟨f4, rfl, h1, h2⟩ := cpB_L hp hP n f2 0 0 (by decide) (by omega) (fun i hi => by omega) (fun i _ => rfl) h
  exact ⟨h1, h2⟩
theorem cpC_L {p3 : Int32} {f1 f2 : Nat → Int32} {κ : (Nat → Int32) → Prop} {P : Nat} (hp : p3.toInt = P) (hP : P ≤ 88) : ∀ (n : Nat) (f : Nat → Int32) (u : Int32) (m : Nat), u.toInt = m → m ≤ 44 → (∀ i : Nat, i < m → f (P + i) = f1 i) → (∀ i : Nat, (i < P ∨ P + m ≤ i) → f i = f2 i) → R_m_copyCX_L0 p3 f1 κ n f u → ∃ f3 : Nat → Int32, κ f3 ∧ (∀ i : Nat, i < 44 → f3 (P + i) = f1 i) ∧ (∀ i : Nat, (i < P ∨ P + 44 ≤ i) → f3 i = f2 i) := by
  intro n
  induction n with
  | zero => intro f u m _ _ _ _ h; exact h.elim
  | succ n ih =>
    intro f u m hu hm h1 h2 h
    have e44 : (44 : Int32).toInt = 44 := by decide
    unfold R_m_copyCX_L0 at h
    rcases h with ⟨q, h⟩ | ⟨q, z12, hz12, z15, hz15, z18, hz18, z20, hz20, h⟩
    · rw [le_I, e44] at q
      obtain rfl : m = 44 := by omega
      exact ⟨f, h, h1, h2⟩
    · rw [le_I, e44] at q
      have c12 := addz hp hu (by omega) hz12
      have c15 := (addz (a := 0) (x := 0) (by decide) hu (by omega) hz15)
      rw [c15] at hz18
      rw [c12] at h
      refine ih _ z20 (m + 1) (by rw [add1z hu (by omega) hz20]; omega) (by omega) ?_ ?_ h
      · intro i hi
        by_cases e : i = m
        · subst e
          rw [upd_at, hz18, Nat.zero_add]
        · rw [upd_ne (by omega)]; exact h1 i (by omega)
      · intro i hi
        rw [upd_ne (by omega)]; exact h2 i (by omega)
theorem cpC {p3 : Int32} {f1 f2 f3 : Nat → Int32} {P : Nat} (hp : p3.toInt = P) (hP : P ≤ 88) (h : R_m_copyCX p3 f1 f2 f3) : (∀ i : Nat, i < 44 → f3 (P + i) = f1 i) ∧ (∀ i : Nat, (i < P ∨ P + 44 ≤ i) → f3 i = f2 i) := by
  obtain ⟨n, h⟩ := h
  obtain ⟨f4, rfl, h1, h2⟩ := cpC_L hp hP n f2 0 0 (by decide) (by omega) (fun i hi => by omega) (fun i _ => rfl) h
  exact ⟨h1, h2⟩
theorem cpD_L {p1 : Int32} {f1 f2 : Nat → Int32} {κ : (Nat → Int32) → Prop} {P : Nat} (hp : p1.toInt = P) (hP : P ≤ 88) : ∀ (n : Nat) (f : Nat → Int32) (u : Int32) (m : Nat), u.toInt = m → m ≤ 44 → (∀ i : Nat, i < m → f i = f1 (P + i)) → (∀ i : Nat, m ≤ i → f i = f2 i) → R_m_copyDX_L0 p1 f1 κ n f u → ∃ f3 : Nat → Int32, κ f3 ∧ (∀ i : Nat, i < 44 → f3 i = f1 (P + i)) ∧ (∀ i : Nat, 44 ≤ i → f3 i = f2 i) := by
  intro n
  induction n with
  | zero => intro f u m _ _ _ _ h; exact h.elim
  | succ n ih =>
    intro f u m hu hm h1 h2 h
    have e44 : (44 : Int32).toInt = 44 := by decide
    unfold R_m_copyDX_L0 at h
    rcases h with ⟨q, h⟩ | ⟨q, z12, hz12, z15, hz15, z18, hz18, z20, hz20, h⟩
    · rw [le_I, e44] at q
      obtain rfl : m = 44 := by omega
      exact ⟨f, h, h1, h2⟩
    · rw [le_I, e44] at q
      have c12 := addz (a := 0) (x := 0) (by decide) hu (by omega) hz12
      have c15 := (addz hp hu (by omega) hz15)
      rw [c15] at hz18
      rw [c12] at h
      refine ih _ z20 (m + 1) (by rw [add1z hu (by omega) hz20]; omega) (by omega) ?_ ?_ h
      · intro i hi
        by_cases e : i = m
        · subst e
          rw [Nat.zero_add, upd_at, hz18]
        · rw [upd_ne (by omega)]; exact h1 i (by omega)
      · intro i hi
        rw [upd_ne (by omega)]; exact h2 i (by omega)
theorem cpD {p1 : Int32} {f1 f2 f3 : Nat → Int32} {P : Nat} (hp : p1.toInt = P) (hP : P ≤ 88) (h : R_m_copyDX p1 f1 f2 f3) : (∀ i : Nat, i < 44 → f3 i = f1 (P + i)) ∧ (∀ i : Nat, 44 ≤ i → f3 i = f2 i) := by
  obtain ⟨n, h⟩ := h
  obtain ⟨f4, rfl, h1, h2⟩ := cpD_L hp hP n f2 0 0 (by decide) (by omega) (fun i hi => by omega) (fun i _ => rfl) h
  exact ⟨h1, h2⟩
theorem note_L {f2 : Nat → Int32} {κ : (Nat → Int32) → Prop} : ∀ (n : Nat) (f : Nat → Int32) (u : Int32) (m : Nat), u.toInt = m → m ≤ 484 → (∀ i : Nat, i < m → f i = f2 (i + 44)) → (∀ i : Nat, m ≤ i → f i = f2 i) → R_m_noteX_L0 κ n f u → ∃ f3 : Nat → Int32, κ f3 ∧ (∀ i : Nat, i < 484 → f3 i = f2 (i + 44)) := by
  intro n
  induction n with
  | zero => intro f u m _ _ _ _ h; exact h.elim
  | succ n ih =>
    intro f u m hu hm h1 h2 h
    have e484 : (484 : Int32).toInt = 484 := by decide
    unfold R_m_noteX_L0 at h
    rcases h with ⟨q, h⟩ | ⟨q, z36, hz36, z39, hz39, z41, hz41, h⟩
    · rw [le_I, e484] at q
      obtain rfl : m = 484 := by omega
      exact ⟨f, h, h1⟩
    · rw [le_I, e484] at q
      have c36 := addz hu (show (44 : Int32).toInt = (44 : Nat) by decide) (by omega) hz36
      rw [c36, h2 _ (by omega)] at hz39
      rw [tnz hu] at h
      refine ih _ z41 (m + 1) (by rw [add1z hu (by omega) hz41]; omega) (by omega) ?_ ?_ h
      · intro i hi
        by_cases e : i = m
        · subst e
          rw [upd_at, hz39]
        · rw [upd_ne (by omega)]; exact h1 i (by omega)
      · intro i hi
        rw [upd_ne (by omega)]; exact h2 i (by omega)

/-- a State of the class is a row of 44 of the reference, under a house F -/
def SR (F S : Nat → Int32) (rn mn wn pn md tr : Int32) (rf mf wf pf : Nat → Int32) : Prop :=
  (rn = F 6 ∧ mn = F 8 ∧ wn = F 10 ∧ pn = F 12 ∧ md = S 43 ∧ tr = S 42) ∧
  (∀ k : Nat, (k : Int) < (F 6).toInt → rf (3 * k) = S k ∧ rf (3 * k + 1) = S (8 + k) ∧ rf (3 * k + 2) = F (16 + 3 * k + 2)) ∧
  (∀ k : Nat, (k : Int) < (F 8).toInt → mf (3 * k) = F (44 + 3 * k) ∧ mf (3 * k + 1) = S (16 + k) ∧ mf (3 * k + 2) = F (44 + 3 * k + 2)) ∧
  (∀ k : Nat, (k : Int) < (F 10).toInt → wf (3 * k) = F (96 + 3 * k) ∧ wf (3 * k + 1) = S (28 + k) ∧ wf (3 * k + 2) = F (96 + 3 * k + 2)) ∧
  (∀ k : Nat, (k : Int) < (F 12).toInt → pf (2 * k) = F (126 + k) ∧ pf (2 * k + 1) = S (34 + k))
def SRel (F S : Nat → Int32) (c : SC) : Prop := SR F S c.1 c.2.1 c.2.2.1 c.2.2.2.1 c.2.2.2.2.1 c.2.2.2.2.2.1 c.2.2.2.2.2.2.1 c.2.2.2.2.2.2.2.1 c.2.2.2.2.2.2.2.2.1 c.2.2.2.2.2.2.2.2.2
def FB (F : Nat → Int32) : Prop := IV (F 6) 0 8 ∧ IV (F 8) 0 12 ∧ IV (F 10) 0 6 ∧ IV (F 12) 0 8
theorem SR.row {F S S2 : Nat → Int32} {rn mn wn pn md tr : Int32} {rf mf wf pf : Nat → Int32} (hF : FB F) (h : SR F S rn mn wn pn md tr rf mf wf pf) (e : ∀ i : Nat, i < 44 → S2 i = S i) : SR F S2 rn mn wn pn md tr rf mf wf pf := by
  obtain ⟨⟨a1, a2, a3, a4, a5, a6⟩, h1, h2, h3, h4⟩ := h
  obtain ⟨⟨-, b1⟩, ⟨-, b2⟩, ⟨-, b3⟩, ⟨-, b4⟩⟩ := hF
  refine ⟨⟨a1, a2, a3, a4, by rw [e 43 (by first | decide | omega)]; exact a5, by rw [e 42 (by first | decide | omega)]; exact a6⟩, fun k hk => ?_, fun k hk => ?_, fun k hk => ?_, fun k hk => ?_⟩
  · rw [e k (by omega), e (8 + k) (by omega)]; exact h1 k hk
  · rw [e (16 + k) (by omega)]; exact h2 k hk
  · rw [e (28 + k) (by omega)]; exact h3 k hk
  · rw [e (34 + k) (by omega)]; exact h4 k hk
theorem cpy0 {f g : Nat → Int32} {n : Int32} {j : Nat} (h : (j : Int) < n.toInt) : va_cpy f g (0 : Int32).toNatClampNeg (0 : Int32).toNatClampNeg n.toNatClampNeg j = f j := by
  have z : (0 : Int32).toNatClampNeg = 0 := by decide
  have t := tn_i (z := n) (by omega)
  rw [z, pk_cpy_in (by omega) (by omega)]
  congr 1
  omega
theorem SR.copy {F S : Nat → Int32} {xrf xmf xwf xpf : Nat → Int32} {ymd ytr yrn ymn ywn ypn : Int32} {yrf ymf ywf ypf xrg xmg xwg xpg : Nat → Int32} {xrk xmk xwk xpk xmd2 xtr2 : Int32} (hF : FB F) (h : SR F S yrn ymn ywn ypn ymd ytr yrf ymf ywf ypf) (hc : R_s_copyFromX xrf xmf xwf xpf ymd ytr yrn yrf ymn ymf ywn ywf ypn ypf xrg xmg xwg xpg xrk xmk xwk xpk xmd2 xtr2) : SR F S xrk xmk xwk xpk xmd2 xtr2 xrg xmg xwg xpg := by
  obtain ⟨⟨a1, a2, a3, a4, a5, a6⟩, h1, h2, h3, h4⟩ := h
  obtain ⟨⟨-, b1⟩, ⟨-, b2⟩, ⟨-, b3⟩, ⟨-, b4⟩⟩ := hF
  unfold R_s_copyFromX R_t_copyFrom8_3X R_t_copyFrom12_3X R_t_copyFrom6_3X R_t_copyFrom8_2X at hc
  obtain ⟨g1, k1, ⟨e1, e2⟩, g2, k2, ⟨e3, e4⟩, g3, k3, ⟨e5, e6⟩, g4, k4, ⟨e7, e8⟩, rfl, rfl, rfl, rfl, rfl, rfl, rfl, rfl, rfl, rfl⟩ := hc
  have n24 : (24 : Int32).toInt = 24 := by decide
  have n36 : (36 : Int32).toInt = 36 := by decide
  have n18 : (18 : Int32).toInt = 18 := by decide
  have n16 : (16 : Int32).toInt = 16 := by decide
  refine ⟨⟨e2.trans a1, e4.trans a2, e6.trans a3, e8.trans a4, a5, a6⟩, fun k hk => ?_, fun k hk => ?_, fun k hk => ?_, fun k hk => ?_⟩
  · rw [e1, cpy0 (by omega), cpy0 (by omega), cpy0 (by omega)]; exact h1 k hk
  · rw [e3, cpy0 (by omega), cpy0 (by omega), cpy0 (by omega)]; exact h2 k hk
  · rw [e5, cpy0 (by omega), cpy0 (by omega), cpy0 (by omega)]; exact h3 k hk
  · rw [e7, cpy0 (by omega), cpy0 (by omega)]; exact h4 k hk
/-- what is kept: undo's rows and the images -/
def KRel (F U X : Nat → Int32) (undos images kac knx kim : Int32) (cf : Nat → SC) : Prop :=
  (kac = undos ∧ kim = images ∧ IV kac 0 12 ∧ IV knx 0 11 ∧ IV kim 0 3) ∧
  (∀ i : Nat, (i : Int) < kac.toInt → SRel F (fun j => U (44 * i + j)) (cf ((knx.toInt.toNat + 12 - kac.toInt.toNat + i) % 12))) ∧
  (∀ i : Nat, (i : Int) < kim.toInt → SRel F (fun j => X (44 * i + j)) (cf (12 + i)))
theorem mul44 {a z : Int32} {x : Nat} (ha : a.toInt = x) (hx : x ≤ 12) (hz : z = (44 : Int32) * a) : z.toInt = (44 * x : Nat) := by
  have e : (44 : Int32).toInt = 44 := by decide
  rw [hz, Int32.toInt_mul, e, ha, Int.bmod_eq_of_le (by omega) (by omega)]
  omega
theorem kp1 {x i : Nat} (hx : x ≤ 11) (hi : i ≤ 11) : ((x + 1) % 12 + 12 - min (i + 1) 12 + i) % 12 = x := by omega
theorem kp2 {x a i : Nat} (hx : x ≤ 11) (ha : a ≤ 11) : ((x + 1) % 12 + 12 - min (a + 1) 12 + i) % 12 = (x + 12 - a + i) % 12 := by omega
theorem kp3 {x : Nat} (hx : x ≤ 11) : ((x + 1) % 12 + 12 - min (12 + 1) 12 + 11) % 12 = x := by omega
theorem kp4 {x i : Nat} (hx : x ≤ 11) : ((x + 1) % 12 + 12 - min (12 + 1) 12 + i) % 12 = (x + 12 - 12 + (i + 1)) % 12 := by omega
theorem K_keep {F S U U2 X : Nat → Int32} {undos undos2 images kac knx kim kac2 knx2 zmd ztr zrn zmn zwn zpn : Int32} {zrf zmf zwf zpf : Nat → Int32} {cf cf2 : Nat → SC} (hF : FB F) (hS : SR F S zrn zmn zwn zpn zmd ztr zrf zmf zwf zpf) (hK : KRel F U X undos images kac knx kim cf) (hc : R_g_keepX kac knx zmd ztr zrn zrf zmn zmf zwn zwf zpn zpf cf kac2 knx2 cf2) (hm : R_m_noteX undos S U U2 undos2) : KRel F U2 X undos2 images kac2 knx2 kim cf2 := by
  obtain ⟨⟨e1, e2, i1, i2, i3⟩, hu, hx⟩ := hK
  subst e1
  unfold R_g_keepX at hc
  refine exE10 hc ?_
  clear hc
  intro y1 y2 y3 y4 y5 y6 y7 y8 y9 y10 hy hc
  refine exE10 hc ?_
  clear hc
  intro g1 g2 g3 g4 g5 g6 g7 g8 g9 g10 hcp hc
  refine exE1 hc ?_
  clear hc
  intro z29 h29 hc
  refine exE1 hc ?_
  clear hc
  intro z32 h32 hc
  refine exE1 hc ?_
  clear hc
  intro z34 h34 hc
  refine exE1 hc ?_
  clear hc
  intro z37 h37 hc
  refine exA2 hc ?_
  clear hc
  intro hk7 hk8 hcf
  subst hk7 hk8 hcf
  have hN := SR.copy hF hS hcp
  have o1 : (1 : Int32).toInt = 1 := by decide
  have o12 : (12 : Int32).toInt = 12 := by decide
  obtain ⟨a, ha⟩ : ∃ a : Nat, kac.toInt = a := ⟨kac.toInt.toNat, by have := i1.1; omega⟩
  obtain ⟨x, hxn⟩ : ∃ a : Nat, knx.toInt = a := ⟨knx.toInt.toNat, by have := i2.1; omega⟩
  have ia := i1
  have ix := i2
  rw [IV, ha] at ia
  rw [IV, hxn] at ix
  have t29 : z29.toInt = x + 1 := by rw [h29, Int32.toInt_add, hxn, o1, Int.bmod_eq_of_le (by omega) (by omega)]
  have t34 : z34.toInt = a + 1 := by rw [h34, Int32.toInt_add, ha, o1, Int.bmod_eq_of_le (by omega) (by omega)]
  have t32 : knx2.toInt = ((x + 1) % 12 : Nat) := by
    by_cases q : x = 11
    · have : z29 = 12 := Int32.toInt_inj.mp (by rw [t29, o12, q]; rfl)
      rw [h32, this, q]
      decide
    · have : z29 / 12 = 0 := Int32.toInt_inj.mp (by
        rw [Int32.toInt_div, t29, o12]
        have : ((x : Int) + 1).tdiv 12 = 0 := Int.tdiv_eq_zero_of_lt (by omega) (by omega)
        rw [this]; decide)
      rw [h32, this, show (0 : Int32) * 12 = 0 by decide, show z29 - 0 = z29 from Int32.toInt_inj.mp (by rw [Int32.toInt_sub, t29, zI, Int.bmod_eq_of_le (by omega) (by omega)]; omega), t29]
      omega
  have t37 : kac2.toInt = (min (a + 1) 12 : Nat) := by
    rw [h37]
    by_cases q : a = 12
    · rw [if_pos (by rw [lt_I, o12, t34]; omega), o12]; omega
    · rw [if_neg (by rw [lt_I, o12, t34]; omega), t34]; omega
  have tk : knx.toNatClampNeg = x := tnz hxn
  rw [tk]
  have q32 : knx2.toInt.toNat = (x + 1) % 12 := by omega
  have q37 : kac2.toInt.toNat = min (a + 1) 12 := by omega
  have qk : knx.toInt.toNat = x := by omega
  have qa : kac.toInt.toNat = a := by omega
  have hx2 : ∀ i : Nat, (i : Int) < kim.toInt → SRel F (fun j => X (44 * i + j)) (ucf cf x (g5, g6, g7, g8, g9, g10, g1, g2, g3, g4) (12 + i)) := by
    intro i hi
    rw [ucf_ne (by omega)]
    exact hx i hi
  unfold R_m_noteX at hm
  rcases hm with ⟨n12, z3, h3, f6, hcp2, z9, h9, rfl, rfl⟩ | ⟨y12, n0, hL⟩
  · have a12 : a ≠ 12 := fun q => n12 (Int32.toInt_inj.mp (by rw [ha, o12, q]; rfl))
    have t9 : undos2.toInt = a + 1 := by rw [h9, Int32.toInt_add, ha, o1, Int.bmod_eq_of_le (by omega) (by omega)]
    obtain ⟨c1, c2⟩ := cpA (mul44 ha (by omega) h3) (by omega) hcp2
    refine ⟨⟨Int32.toInt_inj.mp (by rw [t37, t9]; omega), e2, by rw [IV, t37]; omega, by rw [IV, t32]; omega, i3⟩, fun i hi => ?_, hx2⟩
    rw [t37] at hi
    rw [q32, q37]
    by_cases q : i = a
    · subst q
      rw [kp1 (x := x) (i := i) (by omega) (by omega), ucf_at]
      exact hN.row hF (fun j hj => c1 j hj)
    · rw [kp2 (x := x) (a := a) (i := i) (by omega) (by omega), ucf_ne (by omega)]
      have := hu i (by omega)
      rw [qk, qa] at this
      exact SR.row hF this (fun j hj => c2 _ (Or.inl (by omega)))
  · have a12 : a = 12 := by rw [y12, o12] at ha; omega
    subst a12
    obtain ⟨f3, ⟨z22, h22, z25, h25, f28, hcp2, z31, h31, rfl, rfl⟩, hs⟩ := note_L n0 U 0 0 (by decide) (by omega) (fun i hi => by omega) (fun i _ => rfl) hL
    have t22 : z22.toInt = (11 : Nat) := by rw [h22, Int32.toInt_sub, ha, o1, Int.bmod_eq_of_le (by omega) (by omega)]; rfl
    have t31 : undos2.toInt = 12 := by rw [h31, Int32.toInt_add, t22, o1, Int.bmod_eq_of_le (by omega) (by omega)]; rfl
    obtain ⟨c1, c2⟩ := cpA (mul44 t22 (by omega) h25) (by omega) hcp2
    refine ⟨⟨Int32.toInt_inj.mp (by rw [t37, t31]; omega), e2, by rw [IV, t37]; omega, by rw [IV, t32]; omega, i3⟩, fun i hi => ?_, hx2⟩
    rw [t37] at hi
    rw [q32, q37]
    by_cases q : i = 11
    · subst q
      rw [kp3 (x := x) (by omega), ucf_at]
      exact hN.row hF (fun j hj => c1 j hj)
    · rw [kp4 (x := x) (i := i) (by omega), ucf_ne (by omega)]
      have := hu (i + 1) (by omega)
      rw [qk, qa] at this
      refine SR.row hF this (fun j hj => ?_)
      show U2 (44 * i + j) = U (44 * (i + 1) + j)
      rw [c2 _ (Or.inl (by omega)), hs _ (by omega)]
      congr 1
      omega
