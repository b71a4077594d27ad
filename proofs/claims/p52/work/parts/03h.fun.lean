/-! a night by whole functions: what layNight, carry and apartOf of the reference give -/
def mostF (a b : Int32) : Int32 := if b < a then a else b
def leastF (a b : Int32) : Int32 := if a < b then a else b
def rlF (rf : Nat → Int32) (k : Int32) : Int32 := rf (126 + k).toNatClampNeg
def fmF (rf sf : Nat → Int32) (k : Int32) : Int32 := sf (0 + rlF rf k).toNatClampNeg
def gnF (a b : Int32) : Int32 := if b ≤ a then 1 else 0
def mkF (rf sf : Nat → Int32) (k t : Int32) : Nat → Int32 → Int32
  | 0, _ => -2
  | n + 1, m => if rf (44 + 3 * m).toNatClampNeg = k ∧ rf (44 + 3 * m + 2).toNatClampNeg = t then sf (16 + m).toNatClampNeg else mkF rf sf k t n (m + Int32.ofInt 1)
theorem fuel_s {N u : Int} (h : u < N) : (N - u).toNat = (N - (u + 1)).toNat + 1 := by omega
theorem mk_step {rf sf : Nat → Int32} {k t u u' X : Int32} {N : Int} (hx : X = mkF rf sf k t (N - u.toInt).toNat u) (hlt : u.toInt < N) (eu : u + Int32.ofInt 1 = u') (iu : u'.toInt = u.toInt + 1) (hne : ¬ (rf (44 + 3 * u).toNatClampNeg = k ∧ rf (44 + 3 * u + 2).toNatClampNeg = t)) : X = mkF rf sf k t (N - u'.toInt).toNat u' := by
  rw [fuel_s hlt, ← iu] at hx
  rw [hx]
  show (if _ then _ else _) = _
  rw [if_neg hne, eu]
theorem mk_hit {rf sf : Nat → Int32} {k t u X : Int32} {N : Int} (hx : X = mkF rf sf k t (N - u.toInt).toNat u) (hlt : u.toInt < N) (h : rf (44 + 3 * u).toNatClampNeg = k ∧ rf (44 + 3 * u + 2).toNatClampNeg = t) : sf (16 + u).toNatClampNeg = X := by
  rw [fuel_s hlt] at hx
  rw [hx]
  show _ = (if _ then _ else _)
  rw [if_pos h]
theorem mk_end {rf sf : Nat → Int32} {k t u X : Int32} {N : Int} (hx : X = mkF rf sf k t (N - u.toInt).toNat u) (hge : N ≤ u.toInt) : -2 = X := by
  rw [show (N - u.toInt).toNat = 0 by omega] at hx
  exact hx.symm
def blS (rf sf : Nat → Int32) (reel kind m f : Int32) : Int32 := if rf (44 + 3 * m).toNatClampNeg = reel then (if kind = 1 then leastF f (sf (16 + m).toNatClampNeg) else mostF f (sf (16 + m).toNatClampNeg)) else f
def blF (rf sf : Nat → Int32) (reel kind : Int32) : Nat → Int32 → Int32 → Int32
  | 0, _, f => f
  | n + 1, m, f => blF rf sf reel kind n (m + Int32.ofInt 1) (blS rf sf reel kind m f)
theorem bl_step {rf sf : Nat → Int32} {reel kind u u' f f' X : Int32} {N : Int} (hx : X = blF rf sf reel kind (N - u.toInt).toNat u f) (hlt : u.toInt < N) (eu : u + Int32.ofInt 1 = u') (iu : u'.toInt = u.toInt + 1) (hf : f' = blS rf sf reel kind u f) : X = blF rf sf reel kind (N - u'.toInt).toNat u' f' := by
  rw [fuel_s hlt, ← iu] at hx
  rw [hx, hf, ← eu]
  rfl
theorem bl_end {rf sf : Nat → Int32} {reel kind u f X : Int32} {N : Int} (hx : X = blF rf sf reel kind (N - u.toInt).toNat u f) (hge : N ≤ u.toInt) : f = X := by
  rw [show (N - u.toInt).toNat = 0 by omega] at hx
  exact hx.symm
def belF (rf sf : Nat → Int32) (man k : Int32) : Int32 :=
  if rf (114 + 3 * man).toNatClampNeg = 3 then (if mkF rf sf (rlF rf k) (rf (114 + 3 * man + 1).toNatClampNeg) (rf 8).toInt.toNat 0 < 0 then sf (8 + rlF rf k).toNatClampNeg else mkF rf sf (rlF rf k) (rf (114 + 3 * man + 1).toNatClampNeg) (rf 8).toInt.toNat 0)
  else if rf (114 + 3 * man).toNatClampNeg = 0 then sf (8 + rlF rf k).toNatClampNeg else blF rf sf (rlF rf k) (rf (114 + 3 * man).toNatClampNeg) (rf 8).toInt.toNat 0 (sf (8 + rlF rf k).toNatClampNeg)
def fwF (ah gone : Int32) : Int32 := if gone ≠ 0 ∨ ah < 0 then 0 else ah
def bkF (ah gone : Int32) : Int32 := if gone ≠ 0 ∨ 0 < ah then 0 else -ah
theorem bel_n {rf sf : Nat → Int32} {man k kind f f0 : Int32} (ek : kind = rf (114 + 3 * man).toNatClampNeg) (h3 : ¬ kind = 3) (e0 : f0 = sf (8 + rlF rf k).toNatClampNeg) (h0 : kind = 0 → f = f0) (hx : ¬ kind = 0 → f = blF rf sf (rlF rf k) (rf (114 + 3 * man).toNatClampNeg) (rf 8).toInt.toNat 0 (sf (8 + rlF rf k).toNatClampNeg)) : f = belF rf sf man k := by
  unfold belF
  rw [← ek, if_neg h3]
  by_cases q : kind = 0
  · rw [if_pos q, h0 q, e0]
  · rw [if_neg q, hx q, ek]
theorem bel_3 {rf sf : Nat → Int32} {man k kind mk f r : Int32} (ek : kind = rf (114 + 3 * man).toNatClampNeg) (h3 : kind = 3) (e0 : f = sf (8 + rlF rf k).toNatClampNeg) (em : mk = mkF rf sf (rlF rf k) (rf (114 + 3 * man + 1).toNatClampNeg) (rf 8).toInt.toNat 0) (hr : r = if mk < 0 then f else mk) : r = belF rf sf man k := by
  unfold belF
  rw [← ek, if_pos h3, ← em, ← e0, hr]
def ntS (rf sf : Nat → Int32) (sl man k a b : Int32) : Int32 × Int32 :=
  if gnF a (fmF rf sf k) = 0 then
    (fwF (leastF (mostF (leastF (belF rf sf man k + sl) (fmF rf sf k - 1)) a + rf 0) (fmF rf sf k) - mostF (leastF (belF rf sf man k + sl) (fmF rf sf k - 1)) a - rf 1 - sf (34 + k + 1).toNatClampNeg) 0,
     b + leastF (mostF (leastF (belF rf sf man k + sl) (fmF rf sf k - 1)) a + rf 0) (fmF rf sf k) - a + bkF (leastF (mostF (leastF (belF rf sf man k + sl) (fmF rf sf k - 1)) a + rf 0) (fmF rf sf k) - mostF (leastF (belF rf sf man k + sl) (fmF rf sf k - 1)) a - rf 1 - sf (34 + k + 1).toNatClampNeg) 0)
  else (fwF 0 1, b + bkF 0 1)
def NS (rf sf : Nat → Int32) (sl man : Int32) : Nat → Int32 × Int32
  | 0 => (0, 0)
  | n + 1 => ntS rf sf sl man (nI n) (NS rf sf sl man n).1 (NS rf sf sl man n).2
def chF (rf sf : Nat → Int32) (sl man last k a b : Int32) : Int32 :=
  if gnF a (fmF rf sf k) = 0 then (if k < last then b + leastF (mostF (leastF (belF rf sf man k + sl) (fmF rf sf k - 1)) a + rf 0) (fmF rf sf k) - a else b + fmF rf sf k - a) else b
def CHF (rf sf : Nat → Int32) (sl man last : Int32) (j : Nat) : Int32 := chF rf sf sl man last (nI j) (NS rf sf sl man j).1 (NS rf sf sl man j).2
theorem nI_back {u : Int32} (h : 0 ≤ u.toInt) : nI u.toInt.toNat = u := by
  have r := rng u
  refine Int32.toInt_inj.mp ?_
  rw [nI_toInt (by omega)]
  omega
def ntA (rf sf : Nat → Int32) (sl man last u : Int32) (B C : Nat → Int32) : Prop := ∀ j : Nat, (j : Int) < u.toInt → B j = (NS rf sf sl man j).2 ∧ C j = CHF rf sf sl man last j
def ntB (rf sf : Nat → Int32) (sl man last u : Int32) (F B : Nat → Int32) : Prop := u.toInt ≤ last.toInt → F u.toInt.toNat = (NS rf sf sl man u.toInt.toNat).1 ∧ B u.toInt.toNat = (NS rf sf sl man u.toInt.toNat).2
theorem nt_a {rf sf : Nat → Int32} {sl man last u u' c a b : Int32} {F B C : Nat → Int32} (hA : ntA rf sf sl man last u B C) (hB : ntB rf sf sl man last u F B) (h0 : 0 ≤ u.toInt) (hl : u.toInt ≤ last.toInt) (iu : u'.toInt = u.toInt + 1) (ea : a = F u.toNatClampNeg) (eb : b = B u.toNatClampNeg) (hc : c = chF rf sf sl man last u a b) {B2 : Nat → Int32} (hB2 : ∀ j : Nat, (j : Int) ≤ u.toInt → B2 j = B j) : ntA rf sf sl man last u' B2 (upd C u.toNatClampNeg c) := by
  intro j q
  obtain ⟨b1, b2⟩ := hB hl
  by_cases e : j = u.toInt.toNat
  · subst e
    refine ⟨(hB2 _ (by omega)).trans b2, ?_⟩
    have e2 : upd C u.toNatClampNeg c u.toInt.toNat = c := upd_at
    rw [e2, hc, ea, eb]
    unfold CHF
    rw [nI_back h0, ← b1, ← b2]
    rfl
  · have t := tn_i (z := u) h0
    obtain ⟨a1, a2⟩ := hA j (by omega)
    rw [hB2 j (by omega), upd_ne (by omega)]
    exact ⟨a1, a2⟩
theorem nt_b {rf sf : Nat → Int32} {sl man last u u' z a b f1 b1 : Int32} {F B : Nat → Int32} (hB : ntB rf sf sl man last u F B) (h0 : 0 ≤ u.toInt) (hl : u.toInt ≤ last.toInt) (iu : u'.toInt = u.toInt + 1) (iz : z.toInt = u.toInt + 1) (ea : a = F u.toNatClampNeg) (eb : b = B u.toNatClampNeg) (hf : (f1, b1) = ntS rf sf sl man u a b) : ntB rf sf sl man last u' (upd F z.toNatClampNeg f1) (upd B z.toNatClampNeg b1) := by
  intro _
  obtain ⟨c1, c2⟩ := hB hl
  have t := tn_i (z := z) (by omega)
  have e : u'.toInt.toNat = z.toNatClampNeg := by omega
  have e2 : u'.toInt.toNat = u.toInt.toNat + 1 := by omega
  have h1 : NS rf sf sl man u'.toInt.toNat = (f1, b1) := by
    rw [e2]
    show ntS rf sf sl man (nI u.toInt.toNat) _ _ = _
    rw [nI_back h0, ← c1, ← c2, hf, ea, eb]
    rfl
  rw [h1, e, upd_at, upd_at]
  exact ⟨rfl, rfl⟩
theorem nt_kb {u z b1 : Int32} {B : Nat → Int32} (iz : z.toInt = u.toInt + 1) (h0 : 0 ≤ u.toInt) : ∀ j : Nat, (j : Int) ≤ u.toInt → upd B z.toNatClampNeg b1 j = B j := by
  intro j q
  have t := tn_i (z := z) (by omega)
  exact upd_ne (by omega)
theorem ch_g {rf sf F : Nat → Int32} {sl man last u b gg : Int32} (hq : gg = gnF (F u.toNatClampNeg) (fmF rf sf u)) (hn : ¬ gg = 0) : b = chF rf sf sl man last u (F u.toNatClampNeg) b := by
  unfold chF
  rw [← hq, if_neg hn]
theorem ch_l {rf sf F : Nat → Int32} {sl man last u a b c z1 fr gg : Int32} (e2 : c = z1 - a) (e1 : z1 = b + fr) (hf : fr = fmF rf sf u) (ea : a = F u.toNatClampNeg) (hq : gg = gnF (F u.toNatClampNeg) (fmF rf sf u)) (h0 : gg = 0) (hge : last ≤ u) : c = chF rf sf sl man last u a b := by
  unfold chF
  rw [ea, ← hq, if_pos h0, if_neg (Int32.not_lt.mpr hge), e2, e1, hf, ea]
theorem ch_n {rf sf F S : Nat → Int32} {sl man last u a b c z1 z2 z3 z4 l1 m1 q0 cf be sv fr gg : Int32} (e9 : c = z4 - a) (e8 : z4 = b + cf) (e7 : cf = leastF z3 fr) (e6 : z3 = m1 + q0) (e5 : q0 = rf (0 : Int32).toNatClampNeg) (e4 : m1 = mostF l1 a) (e3 : l1 = leastF z1 z2) (e2 : z2 = fr - 1) (e1 : z1 = be + sv) (es : sv = S u.toNatClampNeg) (hs : ∀ i : Nat, i < 8 → S i = sl) (hu : IV u 0 7) (bl : be = belF rf sf man u) (hf : fr = fmF rf sf u) (ea : a = F u.toNatClampNeg) (hq : gg = gnF (F u.toNatClampNeg) (fmF rf sf u)) (h0 : gg = 0) (hlt : ¬ last ≤ u) : c = chF rf sf sl man last u a b := by
  have w := hu
  have t := tn_i (z := u) w.1
  have e10 : sv = sl := es.trans (hs _ (by omega))
  unfold chF
  rw [show gnF a (fmF rf sf u) = gg by rw [hq, ea], if_pos h0, if_pos (Int32.not_le.mp hlt), e9, e8, e7, e6, e4, e3, e2, e1, bl, hf, e10, e5]
  rfl
theorem nt_g {rf sf F : Nat → Int32} {sl man u b gg : Int32} (hq : gg = gnF (F u.toNatClampNeg) (fmF rf sf u)) (hn : ¬ gg = 0) : (fwF 0 1, b + bkF 0 1) = ntS rf sf sl man u (F u.toNatClampNeg) b := by
  unfold ntS
  rw [← hq, if_neg hn]
theorem nt_n {rf sf F S : Nat → Int32} {sl man u a b c z1 z2 z3 z4 z5 z6 z7 z8 z9 l1 m1 q0 q1 ah cf be sv fr gg : Int32} (d9 : ah = z6 - z7) (d8 : z6 = z5 - q1) (d7 : z5 = cf - m1) (d6 : q1 = rf (1 : Int32).toNatClampNeg) (d5 : z7 = sf z9.toNatClampNeg) (d4 : z9 = z8 + 1) (d3 : z8 = 34 + u) (e9 : c = z4 - a) (e8 : z4 = b + cf) (e7 : cf = leastF z3 fr) (e6 : z3 = m1 + q0) (e5 : q0 = rf (0 : Int32).toNatClampNeg) (e4 : m1 = mostF l1 a) (e3 : l1 = leastF z1 z2) (e2 : z2 = fr - 1) (e1 : z1 = be + sv) (es : sv = S u.toNatClampNeg) (hs : ∀ i : Nat, i < 8 → S i = sl) (hu : IV u 0 7) (bl : be = belF rf sf man u) (hf : fr = fmF rf sf u) (ea : a = F u.toNatClampNeg) (hq : gg = gnF (F u.toNatClampNeg) (fmF rf sf u)) (h0 : gg = 0) : (fwF ah 0, c + bkF ah 0) = ntS rf sf sl man u a b := by
  have w := hu
  have t := tn_i (z := u) w.1
  have e10 : sv = sl := es.trans (hs _ (by omega))
  unfold ntS
  rw [show gnF a (fmF rf sf u) = gg by rw [hq, ea], if_pos h0]
  subst d3
  subst d4
  subst d5
  subst d6
  subst d7
  subst d8
  subst d9
  subst e10
  subst e5
  subst e2
  subst e1
  subst e3
  subst e4
  subst e6
  subst e7
  subst e8
  subst e9
  subst bl
  subst hf
  rfl
/-- the boy who is back first, of the first so many -/
def byF (bk : Nat → Int32) : Nat → Int32 → Int32 → Int32
  | 0, _, boy => boy
  | n + 1, b, boy => byF bk n (b + Int32.ofInt 1) (if bk b.toNatClampNeg < bk boy.toNatClampNeg then b else boy)
theorem by_step {bk : Nat → Int32} {N : Int} {b b' y y' X : Int32} (hx : X = byF bk (N - b.toInt).toNat b y) (hlt : b.toInt < N) (eb : b + Int32.ofInt 1 = b') (ib : b'.toInt = b.toInt + 1) (hy : y' = if bk b.toNatClampNeg < bk y.toNatClampNeg then b else y) : X = byF bk (N - b'.toInt).toNat b' y' := by
  rw [fuel_s hlt, ← ib] at hx
  rw [hx, hy, ← eb]
  rfl
theorem by_end {bk : Nat → Int32} {N : Int} {b y X : Int32} (hx : X = byF bk (N - b.toInt).toNat b y) (hge : N ≤ b.toInt) : y = X := by
  rw [show (N - b.toInt).toNat = 0 by omega] at hx
  exact hx.symm
theorem by_cong {bk bk' : Nat → Int32} (h : ∀ i : Nat, i < 4 → bk i = bk' i) : ∀ (n : Nat) (b y : Int32), 0 ≤ b.toInt → b.toInt + n ≤ 4 → IV y 0 3 → byF bk n b y = byF bk' n b y
  | 0, _, _, _, _, _ => rfl
  | n + 1, b, y, h0, h1, hy => by
    have w := hy
    have tb := tn_i (z := b) h0
    have ty := tn_i (z := y) w.1
    have e1 : (Int32.ofInt 1).toInt = 1 := by decide
    have ib : (b + Int32.ofInt 1).toInt = b.toInt + 1 := by rw [addI (by rw [e1]; omega) (by rw [e1]; omega), e1]
    show byF bk n (b + Int32.ofInt 1) _ = byF bk' n (b + Int32.ofInt 1) _
    rw [h b.toNatClampNeg (by omega), h y.toNatClampNeg (by omega)]
    refine by_cong h n _ _ (by omega) (by omega) ?_
    split
    · exact ⟨by omega, by omega⟩
    · exact hy
/-- the boys after k reels: when each is back; when the k-th reel is there -/
def BKF (rf : Nat → Int32) (cg : Nat → Int32) (boys : Int32) : Nat → (Nat → Int32)
  | 0 => fun _ => 0
  | k + 1 => upd (BKF rf cg boys k) (byF (BKF rf cg boys k) (boys.toInt - 1).toNat 1 0).toNatClampNeg (mostF (cg k) (BKF rf cg boys k (byF (BKF rf cg boys k) (boys.toInt - 1).toNat 1 0).toNatClampNeg) + rf 135 + rf 135)
def THF (rf : Nat → Int32) (cg : Nat → Int32) (boys : Int32) (k : Nat) : Int32 := mostF (cg k) (BKF rf cg boys k (byF (BKF rf cg boys k) (boys.toInt - 1).toNat 1 0).toNatClampNeg) + rf 135
theorem by_iv {bk : Nat → Int32} : ∀ (n : Nat) (b y : Int32), 0 ≤ b.toInt → b.toInt + n ≤ 4 → IV y 0 3 → IV (byF bk n b y) 0 3
  | 0, _, _, _, _, hy => hy
  | n + 1, b, y, h0, h1, hy => by
    have e1 : (Int32.ofInt 1).toInt = 1 := by decide
    have ib : (b + Int32.ofInt 1).toInt = b.toInt + 1 := by rw [addI (by rw [e1]; omega) (by rw [e1]; omega), e1]
    show IV (byF bk n (b + Int32.ofInt 1) _) 0 3
    refine by_iv n _ _ (by omega) (by omega) ?_
    split
    · exact ⟨by omega, by omega⟩
    · exact hy
def apF (rf cg bg : Nat → Int32) (boys : Int32) : Nat → Nat → Int32 → Int32
  | 0, _, m => m
  | n + 1, k, m => apF rf cg bg boys n (k + 1) (mostF m (THF rf cg boys k - bg k))
theorem boys3 (AP : Int32 → Int32) {n best r : Int32} (hiv : IV n 1 4) (h1 : best = AP 4) (h2 : r = AP n) (hlt : best.toInt < r.toInt) : IV n 1 3 := by
  have w := hiv
  refine ⟨w.1, ?_⟩
  rcases Int.lt_or_le 3 n.toInt with q | q
  · have e4 : (4 : Int32).toInt = 4 := by decide
    have e : n = 4 := Int32.toInt_inj.mp (by omega)
    rw [h1, h2, e] at hlt
    omega
  · exact q
theorem sl_step {S : Nat → Int32} {u u' y X : Int32} (hx : ∀ i : Nat, i < u.toInt.toNat → S i = X) (h0 : 0 ≤ u.toInt) (iu : u'.toInt = u.toInt + 1) (ey : y = X) : ∀ i : Nat, i < u'.toInt.toNat → upd S u.toNatClampNeg y i = X := by
  intro i q
  have t := tn_i (z := u) h0
  by_cases c : i = u.toNatClampNeg
  · rw [c, upd_at, ey]
  · rw [upd_ne c]
    exact hx i (by omega)
theorem th_step {rf cg : Nat → Int32} {boys u u' v lv ck bb boy q : Int32} {P : Int} {Th Bk Ch : Nat → Int32} (hT : ∀ j : Nat, (j : Int) < u.toInt → Th j = THF rf cg boys j) (hB : ∀ i : Nat, i < 4 → Bk i = BKF rf cg boys u.toInt.toNat i) (hC : ∀ j : Nat, (j : Int) < P → Ch j = cg j) (h0 : 0 ≤ u.toInt) (hP : u.toInt < P) (iu : u'.toInt = u.toInt + 1) (hb : IV boys 0 4) (hy : boy = byF Bk (boys.toInt - 1).toNat 1 0) (ev : v = lv + q) (el : lv = mostF ck bb) (ec : ck = Ch u.toNatClampNeg) (eb : bb = Bk boy.toNatClampNeg) (eq : q = rf (135 : Int32).toNatClampNeg) : ∀ j : Nat, (j : Int) < u'.toInt → upd Th u.toNatClampNeg v j = THF rf cg boys j := by
  have w := hb
  have t := tn_i (z := u) h0
  have e1 : (1 : Int32).toInt = 1 := by decide
  have hy2 : boy = byF (BKF rf cg boys u.toInt.toNat) (boys.toInt - 1).toNat 1 0 := by rw [hy]; exact by_cong hB _ _ _ (by omega) (by omega) (by decide)
  have hyv : IV boy 0 3 := by rw [hy]; exact by_iv _ _ _ (by omega) (by omega) (by decide)
  have w2 := hyv
  have ty := tn_i (z := boy) w2.1
  have key : v = THF rf cg boys u.toInt.toNat := by
    unfold THF
    rw [← hy2, ev, el, ec, eb, eq, hB boy.toNatClampNeg (by omega)]
    have h3 : Ch u.toNatClampNeg = cg u.toInt.toNat := hC _ (by omega)
    rw [h3]
    rfl
  intro j hj
  by_cases c : j = u.toNatClampNeg
  · rw [c, upd_at, key]
    rfl
  · rw [upd_ne c]
    exact hT j (by omega)
theorem bk_step {rf cg : Nat → Int32} {boys u u' v x lv ck bb boy q : Int32} {P : Int} {Bk Ch : Nat → Int32} (hB : ∀ i : Nat, i < 4 → Bk i = BKF rf cg boys u.toInt.toNat i) (hC : ∀ j : Nat, (j : Int) < P → Ch j = cg j) (h0 : 0 ≤ u.toInt) (hP : u.toInt < P) (iu : u'.toInt = u.toInt + 1) (hb : IV boys 0 4) (hy : boy = byF Bk (boys.toInt - 1).toNat 1 0) (ex : x = v + q) (ev : v = lv + q) (el : lv = mostF ck bb) (ec : ck = Ch u.toNatClampNeg) (eb : bb = Bk boy.toNatClampNeg) (eq : q = rf (135 : Int32).toNatClampNeg) : ∀ i : Nat, i < 4 → upd Bk boy.toNatClampNeg x i = BKF rf cg boys u'.toInt.toNat i := by
  have w := hb
  have t := tn_i (z := u) h0
  have e1 : (1 : Int32).toInt = 1 := by decide
  have hy2 : boy = byF (BKF rf cg boys u.toInt.toNat) (boys.toInt - 1).toNat 1 0 := by rw [hy]; exact by_cong hB _ _ _ (by omega) (by omega) (by decide)
  have hyv : IV boy 0 3 := by rw [hy]; exact by_iv _ _ _ (by omega) (by omega) (by decide)
  have w2 := hyv
  have ty := tn_i (z := boy) w2.1
  have h3 : Ch u.toNatClampNeg = cg u.toInt.toNat := hC _ (by omega)
  have eu : u'.toInt.toNat = u.toInt.toNat + 1 := by omega
  intro i hi
  rw [eu]
  show _ = upd (BKF rf cg boys u.toInt.toNat) (byF (BKF rf cg boys u.toInt.toNat) (boys.toInt - 1).toNat 1 0).toNatClampNeg _ i
  rw [← hy2]
  by_cases c : i = boy.toNatClampNeg
  · rw [c, upd_at, upd_at, ex, ev, el, ec, eb, eq, hB boy.toNatClampNeg (by omega), h3]
    rfl
  · rw [upd_ne c, upd_ne c]
    exact hB i hi
theorem ap_step {rf cg bg Th B : Nat → Int32} {boys u u' m m' v a b X : Int32} {P : Int} (hx : X = apF rf cg bg boys (P - u.toInt).toNat u.toInt.toNat m) (h0 : 0 ≤ u.toInt) (hP : u.toInt < P) (iu : u'.toInt = u.toInt + 1) (hT : ∀ j : Nat, (j : Int) < P → Th j = THF rf cg boys j) (hB : ∀ j : Nat, (j : Int) < P → B j = bg j) (em : m' = mostF m v) (ev : v = a - b) (ea : a = Th u.toNatClampNeg) (eb : b = B u.toNatClampNeg) : X = apF rf cg bg boys (P - u'.toInt).toNat u'.toInt.toNat m' := by
  have t := tn_i (z := u) h0
  have eu : u'.toInt.toNat = u.toInt.toNat + 1 := by omega
  rw [fuel_s hP, ← iu] at hx
  have h1 : Th u.toNatClampNeg = THF rf cg boys u.toInt.toNat := hT _ (by omega)
  have h2 : B u.toNatClampNeg = bg u.toInt.toNat := hB _ (by omega)
  rw [hx, em, ev, ea, eb, h1, h2, eu]
  rfl
theorem ap_end {rf cg bg : Nat → Int32} {boys u m X : Int32} {P : Int} (hx : X = apF rf cg bg boys (P - u.toInt).toNat u.toInt.toNat m) (hge : P ≤ u.toInt) : m = X := by
  rw [show (P - u.toInt).toNat = 0 by omega] at hx
  exact hx.symm
