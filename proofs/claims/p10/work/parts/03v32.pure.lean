set_option maxRecDepth 100000
set_option maxHeartbeats 4000000
/-! what shows the state: reel, mark, shows, thread, missing, words -/
theorem ivN (a : Nat) {x : Int32} {b : Int} (h : IV x 0 b) (e0 : b = (a : Int) := by omega) : ∃ N : Nat, x = nI N ∧ N ≤ a := by
  obtain ⟨k, e, hk⟩ := nI_oF h.1
  have := h.2
  exact ⟨k, e, by omega⟩
theorem inX {p a b r : Int32} : R_m_inX p a b r ↔ r = (if p < a ∨ b < p then 0 else 1) := by
  unfold R_m_inX
  rw [goI, goI, iteE, iteE]
  by_cases q : p < a
  · rw [if_pos q, if_pos (Or.inl q)]
  · rw [if_neg q]
    by_cases q2 : b < p
    · rw [if_pos q2, if_pos (Or.inr q2)]
    · rw [if_neg q2, if_neg (fun w => w.elim q q2)]
theorem lt_s1 {x p : Int32} (h : IV x 0 900) : x - 1 < p ↔ x ≤ p := by
  have e := sub1 (z := x - 1) h rfl
  rw [lt_I, le_I, e]; omega
theorem noP (p : Int32) : p < 0 ∨ (0 : Int32) ≤ p := by rw [lt_I, le_I]; omega
theorem isAny {p hh x z r : Int32} (hb : IV x 0 900) (h0 : hh = 0 → x = 0) (h : ((hh = (0 : Int32)) ∧ (r = 0)) ∨ ((¬ (hh = (0 : Int32))) ∧ (∃ z_4 : Int32, z_4 = x ∧ ∃ z_7 : Int32, z_7 = z_4 - (1 : Int32) ∧ ∃ r_10 : Int32, (R_m_inX p 0 z_7 r_10) ∧ (((r_10 = (0 : Int32)) ∧ (r = 0)) ∨ ((¬ (r_10 = (0 : Int32))) ∧ (r = 1)))))) : r = (if p < 0 ∨ x ≤ p then 0 else 1) := by
  simp only [exists_eq_left, inX, goI, ite01, iteE, lt_s1 hb] at h
  by_cases q : hh = 0
  · rw [if_pos q] at h
    rw [h, h0 q, if_pos (noP p)]
  · rw [if_neg q] at h
    exact h
theorem isPlaceX {F : Nat → Int32} {p hh r : Int32} (hb : IV (F 12) 0 8) (h0 : hh = 0 → F 12 = 0) (h : R_m_isPlaceX p hh F r) : r = (if p < 0 ∨ F 12 ≤ p then 0 else 1) := by
  unfold R_m_isPlaceX at h
  rw [tc_12] at h
  exact isAny (z := 0) (iv_w hb (by decide) (by decide)) h0 h
theorem of_C {p n : Int32} {N : Nat} (hn : n = nI N) (hN : N ≤ 1000) (h : ¬ (p < 0 ∨ n ≤ p)) : ∃ k : Nat, p = nI k ∧ k < N ∧ (k : Int) < n.toInt := by
  subst hn
  rw [lt_I, le_I, zI, nI_toInt (by omega)] at h
  obtain ⟨k, e, hk⟩ := nI_oF (x := p) (by omega)
  exact ⟨k, e, by omega, by rw [nI_toInt (by omega)]; omega⟩
