def SWx (g : Gx) (a : Nat) (c : SC) (w : va_W) : Prop := ∃ (xr xm xw xp xrc xmc xwc xpc : Nat), w = [(cO7_rrrrii a xr xm xw xp c.2.2.2.2.1 c.2.2.2.2.2.1), (cO8_iiri xr 8 3 xrc c.1), (cAI g xrc 24 c.2.2.2.2.2.2.1), (cO8_iiri xm 12 3 xmc c.2.1), (cAI g xmc 36 c.2.2.2.2.2.2.2.1), (cO8_iiri xw 6 3 xwc c.2.2.1), (cAI g xwc 18 c.2.2.2.2.2.2.2.2.1), (cO8_iiri xp 8 2 xpc c.2.2.2.1), (cAI g xpc 16 c.2.2.2.2.2.2.2.2.2)]
def PLx (g : Gx) : List Nat → (Nat → SC) → va_W → Prop
  | [], _, pl => pl = []
  | a :: as, cf, pl => ∃ w pl', SWx g a (cf 0) w ∧ PLx g as (fun i => cf (i + 1)) pl' ∧ pl = w ++ pl'
theorem PL.x {g : Gx} : ∀ {as : List Nat} {pl : va_W}, PL g as pl → ∃ cf : Nat → SC, PLx g as cf pl
  | [], _, h => ⟨fun _ => (0, 0, 0, 0, 0, 0, fun _ => 0, fun _ => 0, fun _ => 0, fun _ => 0), h⟩
  | a :: as, pl, h => by
    obtain ⟨w, pl', ⟨xr, xm, xw, xp, xrc, xmc, xwc, xpc, xmd, xtr, xrn, xmn, xwn, xpn, xrf, xmf, xwf, xpf, hw⟩, h2, h3⟩ := h
    obtain ⟨cf, h2⟩ := PL.x h2
    exact ⟨fun i => match i with | 0 => (xrn, xmn, xwn, xpn, xmd, xtr, xrf, xmf, xwf, xpf) | i + 1 => cf i, w, pl', ⟨xr, xm, xw, xp, xrc, xmc, xwc, xpc, hw⟩, h2, h3⟩
theorem PLx.congr {g : Gx} : ∀ {as : List Nat} {cf cf' : Nat → SC} {pl : va_W}, PLx g as cf pl → (∀ i : Nat, cf' i = cf i) → PLx g as cf' pl
  | [], _, _, _, h, _ => h
  | a :: as, cf, cf', pl, h, e => by
    obtain ⟨w, pl', h1, h2, h3⟩ := h
    exact ⟨w, pl', by rw [e 0]; exact h1, PLx.congr h2 (fun i => e (i + 1)), h3⟩
theorem PLx.focus {g : Gx} : ∀ {as : List Nat} {cf : Nat → SC} {pl : va_W} {i a : Nat}, PLx g as cf pl → as[i]? = some a → ∃ w rest, SWx g a (cf i) w ∧ pl.Perm (w ++ rest) ∧ ∀ (c' : SC) (w' : va_W), SWx g a c' w' → ∃ pl', PLx g as (ucf cf i c') pl' ∧ (w' ++ rest).Perm pl'
  | [], cf, pl, i, a, _, h => by simp at h
  | b :: as, cf, pl, 0, a, hP, h => by
    obtain ⟨w, pl', h1, h2, rfl⟩ := hP
    obtain rfl : b = a := by simpa using h
    refine ⟨w, pl', h1, List.Perm.refl _, fun c' w' hw => ⟨w' ++ pl', ⟨w', pl', ?_, ?_, rfl⟩, List.Perm.refl _⟩⟩
    · rw [ucf_at]; exact hw
    · exact h2.congr (fun i => ucf_ne (by omega))
  | b :: as, cf, pl, i + 1, a, hP, h => by
    obtain ⟨w, pl', h1, h2, rfl⟩ := hP
    obtain ⟨v, rest, g1, g2, g3⟩ := PLx.focus h2 (by simpa using h)
    refine ⟨v, w ++ rest, g1, ?_, fun c' w' hw => ?_⟩
    · refine (List.Perm.append_left w g2).trans ?_
      rw [← List.append_assoc, ← List.append_assoc]
      exact List.Perm.append_right rest List.perm_append_comm
    · obtain ⟨pl2, k1, k2⟩ := g3 c' w' hw
      refine ⟨w ++ pl2, ⟨w, pl2, ?_, ?_, rfl⟩, ?_⟩
      · rw [ucf_ne (by omega)]; exact h1
      · refine k1.congr (fun j => ?_)
        by_cases q : j = i
        · subst q; rw [ucf_at, ucf_at]
        · rw [ucf_ne q, ucf_ne (by omega)]
      refine List.Perm.trans ?_ (List.Perm.append_left w k2)
      rw [← List.append_assoc, ← List.append_assoc]
      exact List.Perm.append_right rest List.perm_append_comm
theorem slot3x {as : List Nat} {kgf : Nat → Option Nat} {p : Int32} {r : Option Nat} (hA : ∀ i : Nat, i < 3 → kgf i = as[12 + i]?) (hn : as.length = 15) (iv : IV p 0 3) (hr : r = if p < 0 ∨ 3 ≤ p then none else kgf p.toNatClampNeg) : (r = none ∧ ¬ p.toInt ≤ 2) ∨ (p.toInt ≤ 2 ∧ ∃ q, as[12 + p.toNatClampNeg]? = some q ∧ r = some q) := by
  rcases slot3 hA hn iv hr with h | h
  · refine Or.inl ⟨h, fun w => ?_⟩
    obtain ⟨q, q1, q2⟩ := slot3i hA hn ⟨iv.1, w⟩ hr
    exact absurd (h.symm.trans q2) (by intro z; cases z)
  · exact Or.inr h
