set_option maxRecDepth 100000
set_option maxHeartbeats 4000000
theorem wok_house : WOk "house" := by unfold WOk; decide +kernel
theorem wok_reel : WOk "reel" := by unfold WOk; decide +kernel
theorem wok_town : WOk "town" := by unfold WOk; decide +kernel
theorem wok_mark : WOk "mark" := by unfold WOk; decide +kernel
theorem wok_join : WOk "join" := by unfold WOk; decide +kernel
theorem wok_weak : WOk "weak" := by unfold WOk; decide +kernel
theorem wok_man : WOk "man" := by unfold WOk; decide +kernel
theorem wok_shows : WOk "shows" := by unfold WOk; decide +kernel
theorem wok_boys : WOk "boys" := by unfold WOk; decide +kernel
theorem wok_by : WOk "by" := by unfold WOk; decide +kernel
theorem wok_seen : WOk "seen" := by unfold WOk; decide +kernel
theorem wok_scratch : WOk "scratch" := by unfold WOk; decide +kernel
theorem wok_apart : WOk "apart" := by unfold WOk; decide +kernel
theorem wok_motor : WOk "motor" := by unfold WOk; decide +kernel
theorem wok_leader : WOk "leader" := by unfold WOk; decide +kernel
theorem wok_burns : WOk "burns" := by unfold WOk; decide +kernel
theorem wok_trim : WOk "trim" := by unfold WOk; decide +kernel
theorem wok_mend : WOk "mend" := by unfold WOk; decide +kernel
theorem wok_frames : WOk "frames" := by unfold WOk; decide +kernel
theorem wok_first : WOk "first" := by unfold WOk; decide +kernel
theorem wok_whole : WOk "whole" := by unfold WOk; decide +kernel
theorem wok_trust : WOk "trust" := by unfold WOk; decide +kernel
theorem wok_lacks : WOk "lacks" := by unfold WOk; decide +kernel
theorem wok_snaps : WOk "snaps" := by unfold WOk; decide +kernel
theorem wok_clean : WOk "clean" := by unfold WOk; decide +kernel
theorem wok_early : WOk "early" := by unfold WOk; decide +kernel
theorem wok_late : WOk "late" := by unfold WOk; decide +kernel
theorem wok_misled : WOk "misled" := by unfold WOk; decide +kernel
theorem wok_slip : WOk "slip" := by unfold WOk; decide +kernel
theorem wok_ride : WOk "ride" := by unfold WOk; decide +kernel
theorem wok_falls : WOk "falls" := by unfold WOk; decide +kernel
theorem wok_black : WOk "black" := by unfold WOk; decide +kernel
theorem wok_lost : WOk "lost" := by unfold WOk; decide +kernel
def ResW (T : Nat → Int32) (n a : Int32) : Prop := IsW T n a "house" ∨ IsW T n a "reel" ∨ IsW T n a "town" ∨ IsW T n a "mark" ∨ IsW T n a "join" ∨ IsW T n a "weak" ∨ IsW T n a "man" ∨ IsW T n a "shows" ∨ IsW T n a "boys" ∨ IsW T n a "by" ∨ IsW T n a "seen" ∨ IsW T n a "scratch"
def NameOk (T : Nat → Int32) (n a : Int32) : Prop := tkF T n a = 1 ∧ ¬ ResW T n a
theorem qm_mustName {T L : Nat → Int32} {n a en tk wh ns ft pl fd2 ft2 pl2 : Int32} (hk : TokM T n a en tk wh ns L) (h : R_m_mustNameX a tk ns ft pl 0 L fd2 ft2 pl2) : (NameOk T n a ∧ fd2 = 0 ∧ ft2 = ft ∧ pl2 = pl) ∨ (¬ NameOk T n a ∧ fd2 = 1 ∧ ft2 = 1 ∧ pl2 = a) := by
  simp only [R_m_mustNameX] at h
  have fin : ∀ f1 u1 p1 : Int32, ResW T n a → R_m_badX 1 a ft pl 0 f1 u1 p1 → fd2 = f1 → ft2 = u1 → pl2 = p1 → (NameOk T n a ∧ fd2 = 0 ∧ ft2 = ft ∧ pl2 = pl) ∨ (¬ NameOk T n a ∧ fd2 = 1 ∧ ft2 = 1 ∧ pl2 = a) := by
    intro f1 u1 p1 hr hb g1 g2 g3
    obtain ⟨b1, b2, b3⟩ := qm_bad rfl hb
    exact Or.inr ⟨fun q => q.2 hr, by rw [g1, b1], by rw [g2, b2], by rw [g3, b3]⟩
  obtain ⟨r, hr, h⟩ := h
  have n0 : ¬ IsW T n a "house" ∧ r = 0 ∨ IsW T n a "house" ∧ r = 1 := by
    rcases m_is_spec wok_house hk hr with ⟨q, hq⟩ | ⟨q, hq⟩
    · exact Or.inr ⟨hq, q⟩
    · exact Or.inl ⟨hq, q⟩
  rcases n0 with ⟨n0, q⟩ | ⟨hq, q⟩
  case inr =>
    rcases h with ⟨-, f1, u1, p1, hb, g1, g2, g3⟩ | ⟨h0, -⟩
    · exact fin f1 u1 p1 (Or.inl hq) hb g1 g2 g3
    · rw [q] at h0; exact absurd h0 one0
  rcases h with ⟨h0, -⟩ | ⟨-, h⟩
  · exact absurd q h0
  clear hr q
  obtain ⟨r, hr, h⟩ := h
  have n1 : ¬ IsW T n a "reel" ∧ r = 0 ∨ IsW T n a "reel" ∧ r = 1 := by
    rcases m_is_spec wok_reel hk hr with ⟨q, hq⟩ | ⟨q, hq⟩
    · exact Or.inr ⟨hq, q⟩
    · exact Or.inl ⟨hq, q⟩
  rcases n1 with ⟨n1, q⟩ | ⟨hq, q⟩
  case inr =>
    rcases h with ⟨-, f1, u1, p1, hb, g1, g2, g3⟩ | ⟨h0, -⟩
    · exact fin f1 u1 p1 (Or.inr (Or.inl hq)) hb g1 g2 g3
    · rw [q] at h0; exact absurd h0 one0
  rcases h with ⟨h0, -⟩ | ⟨-, h⟩
  · exact absurd q h0
  clear hr q
  obtain ⟨r, hr, h⟩ := h
  have n2 : ¬ IsW T n a "town" ∧ r = 0 ∨ IsW T n a "town" ∧ r = 1 := by
    rcases m_is_spec wok_town hk hr with ⟨q, hq⟩ | ⟨q, hq⟩
    · exact Or.inr ⟨hq, q⟩
    · exact Or.inl ⟨hq, q⟩
  rcases n2 with ⟨n2, q⟩ | ⟨hq, q⟩
  case inr =>
    rcases h with ⟨-, f1, u1, p1, hb, g1, g2, g3⟩ | ⟨h0, -⟩
    · exact fin f1 u1 p1 (Or.inr (Or.inr (Or.inl hq))) hb g1 g2 g3
    · rw [q] at h0; exact absurd h0 one0
  rcases h with ⟨h0, -⟩ | ⟨-, h⟩
  · exact absurd q h0
  clear hr q
  obtain ⟨r, hr, h⟩ := h
  have n3 : ¬ IsW T n a "mark" ∧ r = 0 ∨ IsW T n a "mark" ∧ r = 1 := by
    rcases m_is_spec wok_mark hk hr with ⟨q, hq⟩ | ⟨q, hq⟩
    · exact Or.inr ⟨hq, q⟩
    · exact Or.inl ⟨hq, q⟩
  rcases n3 with ⟨n3, q⟩ | ⟨hq, q⟩
  case inr =>
    rcases h with ⟨-, f1, u1, p1, hb, g1, g2, g3⟩ | ⟨h0, -⟩
    · exact fin f1 u1 p1 (Or.inr (Or.inr (Or.inr (Or.inl hq)))) hb g1 g2 g3
    · rw [q] at h0; exact absurd h0 one0
  rcases h with ⟨h0, -⟩ | ⟨-, h⟩
  · exact absurd q h0
  clear hr q
  obtain ⟨r, hr, h⟩ := h
  have n4 : ¬ IsW T n a "join" ∧ r = 0 ∨ IsW T n a "join" ∧ r = 1 := by
    rcases m_is_spec wok_join hk hr with ⟨q, hq⟩ | ⟨q, hq⟩
    · exact Or.inr ⟨hq, q⟩
    · exact Or.inl ⟨hq, q⟩
  rcases n4 with ⟨n4, q⟩ | ⟨hq, q⟩
  case inr =>
    rcases h with ⟨-, f1, u1, p1, hb, g1, g2, g3⟩ | ⟨h0, -⟩
    · exact fin f1 u1 p1 (Or.inr (Or.inr (Or.inr (Or.inr (Or.inl hq))))) hb g1 g2 g3
    · rw [q] at h0; exact absurd h0 one0
  rcases h with ⟨h0, -⟩ | ⟨-, h⟩
  · exact absurd q h0
  clear hr q
  obtain ⟨r, hr, h⟩ := h
  have n5 : ¬ IsW T n a "weak" ∧ r = 0 ∨ IsW T n a "weak" ∧ r = 1 := by
    rcases m_is_spec wok_weak hk hr with ⟨q, hq⟩ | ⟨q, hq⟩
    · exact Or.inr ⟨hq, q⟩
    · exact Or.inl ⟨hq, q⟩
  rcases n5 with ⟨n5, q⟩ | ⟨hq, q⟩
  case inr =>
    rcases h with ⟨-, f1, u1, p1, hb, g1, g2, g3⟩ | ⟨h0, -⟩
    · exact fin f1 u1 p1 (Or.inr (Or.inr (Or.inr (Or.inr (Or.inr (Or.inl hq)))))) hb g1 g2 g3
    · rw [q] at h0; exact absurd h0 one0
  rcases h with ⟨h0, -⟩ | ⟨-, h⟩
  · exact absurd q h0
  clear hr q
  obtain ⟨r, hr, h⟩ := h
  have n6 : ¬ IsW T n a "man" ∧ r = 0 ∨ IsW T n a "man" ∧ r = 1 := by
    rcases m_is_spec wok_man hk hr with ⟨q, hq⟩ | ⟨q, hq⟩
    · exact Or.inr ⟨hq, q⟩
    · exact Or.inl ⟨hq, q⟩
  rcases n6 with ⟨n6, q⟩ | ⟨hq, q⟩
  case inr =>
    rcases h with ⟨-, f1, u1, p1, hb, g1, g2, g3⟩ | ⟨h0, -⟩
    · exact fin f1 u1 p1 (Or.inr (Or.inr (Or.inr (Or.inr (Or.inr (Or.inr (Or.inl hq))))))) hb g1 g2 g3
    · rw [q] at h0; exact absurd h0 one0
  rcases h with ⟨h0, -⟩ | ⟨-, h⟩
  · exact absurd q h0
  clear hr q
  obtain ⟨r, hr, h⟩ := h
  have n7 : ¬ IsW T n a "shows" ∧ r = 0 ∨ IsW T n a "shows" ∧ r = 1 := by
    rcases m_is_spec wok_shows hk hr with ⟨q, hq⟩ | ⟨q, hq⟩
    · exact Or.inr ⟨hq, q⟩
    · exact Or.inl ⟨hq, q⟩
  rcases n7 with ⟨n7, q⟩ | ⟨hq, q⟩
  case inr =>
    rcases h with ⟨-, f1, u1, p1, hb, g1, g2, g3⟩ | ⟨h0, -⟩
    · exact fin f1 u1 p1 (Or.inr (Or.inr (Or.inr (Or.inr (Or.inr (Or.inr (Or.inr (Or.inl hq)))))))) hb g1 g2 g3
    · rw [q] at h0; exact absurd h0 one0
  rcases h with ⟨h0, -⟩ | ⟨-, h⟩
  · exact absurd q h0
  clear hr q
  obtain ⟨r, hr, h⟩ := h
  have n8 : ¬ IsW T n a "boys" ∧ r = 0 ∨ IsW T n a "boys" ∧ r = 1 := by
    rcases m_is_spec wok_boys hk hr with ⟨q, hq⟩ | ⟨q, hq⟩
    · exact Or.inr ⟨hq, q⟩
    · exact Or.inl ⟨hq, q⟩
  rcases n8 with ⟨n8, q⟩ | ⟨hq, q⟩
  case inr =>
    rcases h with ⟨-, f1, u1, p1, hb, g1, g2, g3⟩ | ⟨h0, -⟩
    · exact fin f1 u1 p1 (Or.inr (Or.inr (Or.inr (Or.inr (Or.inr (Or.inr (Or.inr (Or.inr (Or.inl hq))))))))) hb g1 g2 g3
    · rw [q] at h0; exact absurd h0 one0
  rcases h with ⟨h0, -⟩ | ⟨-, h⟩
  · exact absurd q h0
  clear hr q
  obtain ⟨r, hr, h⟩ := h
  have n9 : ¬ IsW T n a "by" ∧ r = 0 ∨ IsW T n a "by" ∧ r = 1 := by
    rcases m_is_spec wok_by hk hr with ⟨q, hq⟩ | ⟨q, hq⟩
    · exact Or.inr ⟨hq, q⟩
    · exact Or.inl ⟨hq, q⟩
  rcases n9 with ⟨n9, q⟩ | ⟨hq, q⟩
  case inr =>
    rcases h with ⟨-, f1, u1, p1, hb, g1, g2, g3⟩ | ⟨h0, -⟩
    · exact fin f1 u1 p1 (Or.inr (Or.inr (Or.inr (Or.inr (Or.inr (Or.inr (Or.inr (Or.inr (Or.inr (Or.inl hq)))))))))) hb g1 g2 g3
    · rw [q] at h0; exact absurd h0 one0
  rcases h with ⟨h0, -⟩ | ⟨-, h⟩
  · exact absurd q h0
  clear hr q
  obtain ⟨r, hr, h⟩ := h
  have n10 : ¬ IsW T n a "seen" ∧ r = 0 ∨ IsW T n a "seen" ∧ r = 1 := by
    rcases m_is_spec wok_seen hk hr with ⟨q, hq⟩ | ⟨q, hq⟩
    · exact Or.inr ⟨hq, q⟩
    · exact Or.inl ⟨hq, q⟩
  rcases n10 with ⟨n10, q⟩ | ⟨hq, q⟩
  case inr =>
    rcases h with ⟨-, f1, u1, p1, hb, g1, g2, g3⟩ | ⟨h0, -⟩
    · exact fin f1 u1 p1 (Or.inr (Or.inr (Or.inr (Or.inr (Or.inr (Or.inr (Or.inr (Or.inr (Or.inr (Or.inr (Or.inl hq))))))))))) hb g1 g2 g3
    · rw [q] at h0; exact absurd h0 one0
  rcases h with ⟨h0, -⟩ | ⟨-, h⟩
  · exact absurd q h0
  clear hr q
  obtain ⟨r, hr, h⟩ := h
  have n11 : ¬ IsW T n a "scratch" ∧ r = 0 ∨ IsW T n a "scratch" ∧ r = 1 := by
    rcases m_is_spec wok_scratch hk hr with ⟨q, hq⟩ | ⟨q, hq⟩
    · exact Or.inr ⟨hq, q⟩
    · exact Or.inl ⟨hq, q⟩
  rcases n11 with ⟨n11, q⟩ | ⟨hq, q⟩
  case inr =>
    rcases h with ⟨h0, -⟩ | ⟨-, f1, u1, p1, hb, g1, g2, g3⟩
    · rw [q] at h0; exact absurd h0 one0
    · exact fin f1 u1 p1 (Or.inr (Or.inr (Or.inr (Or.inr (Or.inr (Or.inr (Or.inr (Or.inr (Or.inr (Or.inr (Or.inr (hq)))))))))))) hb g1 g2 g3
  rcases h with ⟨-, h⟩ | ⟨h0, -⟩
  case inr => exact absurd q h0
  rcases h with ⟨h1, f1, u1, p1, hb, g1, g2, g3⟩ | ⟨h1, g1, g2, g3⟩
  · obtain ⟨b1, b2, b3⟩ := qm_bad rfl hb
    exact Or.inr ⟨fun q => h1 (hk.2.1.trans (tm2.mpr q.1)), by rw [g1, b1], by rw [g2, b2], by rw [g3, b3]⟩
  · refine Or.inl ⟨⟨tm2.mp (hk.2.1.symm.trans h1), ?_⟩, g1, g2, g3⟩
    unfold ResW
    rintro (q | q | q | q | q | q | q | q | q | q | q | q)
    · exact n0 q
    · exact n1 q
    · exact n2 q
    · exact n3 q
    · exact n4 q
    · exact n5 q
    · exact n6 q
    · exact n7 q
    · exact n8 q
    · exact n9 q
    · exact n10 q
    · exact n11 q
/-- the name at a stands in the slot j -/
def NmAt (F T : Nat → Int32) (n a : Int32) (j : Nat) : Prop := 0 < (F (167 + j)).toInt ∧ (F (167 + j)).toInt = lnF T n a ∧ ∀ k : Nat, k < lnF T n a → F (183 + 8 * j + k) = T (a.toNatClampNeg + k)
noncomputable def findG (F T : Nat → Int32) (n a : Int32) : Nat → Nat → Int32
  | 0, _ => -1
  | f + 1, j => @ite _ (NmAt F T n a j) (Classical.propDecidable _) (nI j) (findG F T n a f (j + 1))
noncomputable def findS (F T : Nat → Int32) (n a : Int32) : Int32 := findG F T n a 16 0
theorem find_L1 {ns : Int32} {A B : Prop} : ∀ (f : Nat) (u v : Int32), R_m_findX_L1 ns A B f u v → A ∨ B := by
  intro f u v h
  cases f with
  | zero => exact h.elim
  | succ f => simp only [R_m_findX_L1] at h; rcases h with ⟨-, h⟩ | ⟨-, h⟩; exact Or.inl h; exact Or.inr h
theorem find_L2 {ns : Int32} {A B : Prop} : ∀ (f : Nat) (u v : Int32), R_m_findX_L2 ns A B f u v → A ∨ B := by
  intro f u v h
  cases f with
  | zero => exact h.elim
  | succ f => simp only [R_m_findX_L2] at h; rcases h with ⟨-, h⟩ | ⟨-, h⟩; exact Or.inl h; exact Or.inr h
theorem find_L3 {F T L : Nat → Int32} {n a ns s : Int32} {j : Nat} {κ : Int32 → Prop} {κ2 : Prop} (hs : s.toInt = j) (hj : j < 16) (h8 : lnF T n a ≤ 8) (hns : ns.toInt = lnF T n a) (hL : ∀ k : Nat, k < lnF T n a → L k = T (a.toNatClampNeg + k)) : ∀ (f : Nat) (b u : Int32) (i : Nat), u.toInt = i → i ≤ lnF T n a → ((b = 1 ∧ ∀ k : Nat, k < i → F (183 + 8 * j + k) = T (a.toNatClampNeg + k)) ∨ (b = 0 ∧ ¬ ∀ k : Nat, k < lnF T n a → F (183 + 8 * j + k) = T (a.toNatClampNeg + k))) → R_m_findX_L3 ns L F s κ κ2 f b u → (κ 1 ∧ ∀ k : Nat, k < lnF T n a → F (183 + 8 * j + k) = T (a.toNatClampNeg + k)) ∨ ((κ 0 ∨ κ2) ∧ ¬ ∀ k : Nat, k < lnF T n a → F (183 + 8 * j + k) = T (a.toNatClampNeg + k)) := by
  intro f
  induction f with
  | zero => intro b u i _ _ _ h; exact h.elim
  | succ f ih =>
    intro b u i hi hi2 hb h
    simp only [R_m_findX_L3] at h
    rcases h with ⟨h1, h⟩ | ⟨h1, h⟩
    · rw [le_I] at h1
      rcases hb with ⟨rfl, hb⟩ | ⟨rfl, hb⟩
      · exact Or.inl ⟨h, fun k hk => hb k (by omega)⟩
      · exact Or.inr ⟨Or.inl h, hb⟩
    · rw [le_I] at h1
      rw [ofI1] at h
      rcases h with ⟨h2, h⟩ | h
      · rcases hb with ⟨q, -⟩ | ⟨-, hb⟩
        · rw [h2] at q; exact absurd q (by decide)
        · exact Or.inr ⟨Or.inr h, hb⟩
      · refine exA1 h ?_
        clear h
        intro h2 h
        refine exE1 h ?_
        clear h
        intro z1 hz1 h
        refine exE1 h ?_
        clear h
        intro z2 hz2 h
        refine exE1 h ?_
        clear h
        intro z3 hz3 h
        refine exE1 h ?_
        clear h
        intro z4 hz4 h
        refine exE1 h ?_
        clear h
        intro z5 hz5 h
        have hb' : ∀ k : Nat, k < i → F (183 + 8 * j + k) = T (a.toNatClampNeg + k) := by
          rcases hb with ⟨-, hb⟩ | ⟨q, -⟩
          · exact hb
          · exact absurd q h2
        have e1 : z1.toInt = 8 * s.toInt := in_mul hz1 (by decide) (by decide) (show IV s 0 15 from ⟨by omega, by omega⟩) (by decide) (by decide)
        have e2 := in_add hz2 (show IV 183 183 183 from (by decide)) (show IV z1 0 120 from ⟨by omega, by omega⟩) (by decide) (by decide)
        have e183 : (183 : Int32).toInt = 183 := by decide
        have e3 := in_add hz3 (show IV z2 183 303 from ⟨by omega, by omega⟩) (show IV u 0 8 from ⟨by omega, by omega⟩) (by decide) (by decide)
        have en : z3.toNatClampNeg = 183 + 8 * j + i := by have := tn_i (z := z3) (by omega); omega
        have eu : u.toNatClampNeg = i := by have := tn_i (z := u) (by omega); omega
        have eu1 := inc1 (u := u) (z := u + 1) (a := 0) (b := 900) ⟨by omega, by omega⟩ (by omega) (by omega) rfl
        have e4 : z4 = F (183 + 8 * j + i) := by rw [hz4, en]
        have e5 : z5 = T (a.toNatClampNeg + i) := by rw [hz5, eu]; exact hL i (by omega)
        rcases h with ⟨h3, z, hz, h⟩ | ⟨h3, z, hz, h⟩
        · subst hz
          exact ih 0 (u + 1) (i + 1) (by omega) (by omega) (Or.inr ⟨rfl, fun q => h3 (by rw [e4, e5]; exact q i (by omega))⟩) h
        · subst hz
          refine ih 1 (u + 1) (i + 1) (by omega) (by omega) (Or.inl ⟨rfl, fun k hk => ?_⟩) h
          by_cases q : k = i
          · subst q; rw [← e4, h3, e5]
          · exact hb' k (by omega)
theorem find_L0 {F T L : Nat → Int32} {n a ns r : Int32} (h8 : lnF T n a ≤ 8) (hns : ns.toInt = lnF T n a) (hL : ∀ k : Nat, k < lnF T n a → L k = T (a.toNatClampNeg + k)) : ∀ (f : Nat) (u : Int32) (j g : Nat), u.toInt = j → j + g = 16 → R_m_findX_L0 ns L F r (r = -1) f u → r = findG F T n a g j := by
  intro f
  induction f with
  | zero => intro u j g _ _ h; exact h.elim
  | succ f ih =>
    intro u j g hj hg h
    have e16 : (16 : Int32).toInt = 16 := by decide
    simp only [R_m_findX_L0] at h
    rcases h with ⟨h1, h⟩ | ⟨h1, z1, hz1, z2, hz2, h⟩
    · rw [le_I, e16] at h1
      obtain rfl : g = 0 := by omega
      exact h
    · rw [le_I, e16] at h1
      obtain ⟨g, rfl⟩ : ∃ k, g = k + 1 := ⟨g - 1, by omega⟩
      have e167 : (167 : Int32).toInt = 167 := by decide
      have e1 := in_add hz1 (show IV 167 167 167 from (by decide)) (show IV u 0 15 from ⟨by omega, by omega⟩) (by decide) (by decide)
      have en : z1.toNatClampNeg = 167 + j := by have := tn_i (z := z1) (by omega); omega
      rw [en] at hz2
      have eu1 := inc1 (u := u) (z := u + 1) (a := 0) (b := 900) ⟨by omega, by omega⟩ (by omega) (by omega) rfl
      have no : ¬ NmAt F T n a j → (∃ z : Int32, u + Int32.ofInt 1 = z ∧ R_m_findX_L0 ns L F r (r = -1) f z) → r = findG F T n a (g + 1) j := by
        rintro hno ⟨z, hz, h⟩
        rw [ofI1] at hz
        subst hz
        rw [findG, if_neg hno]
        exact ih (u + 1) (j + 1) g (by omega) (by omega) h
      rcases h with ⟨h2, m, h⟩ | ⟨h2, h⟩
      · rw [le_I, zI, hz2] at h2
        have hno : ¬ NmAt F T n a j := fun q => by have := q.1; omega
        rcases find_L1 m 0 0 h with h | h <;> exact no hno h
      · rw [le_I, zI, hz2] at h2
        rcases h with ⟨h3, m, h⟩ | ⟨h3, m, h⟩
        · have hno : ¬ NmAt F T n a j := fun q => h3 (Int32.toInt_inj.mp (by rw [hz2, hns]; exact q.2.1))
          rcases find_L2 m 0 0 h with h | h <;> exact no hno h
        · have e3 : (F (167 + j)).toInt = lnF T n a := by rw [← hz2, h3, hns]
          rcases find_L3 (j := j) hj (by omega) h8 hns hL m 1 0 0 (by decide) (by omega) (Or.inl ⟨rfl, fun k hk => by omega⟩) h with ⟨h, q⟩ | ⟨h, q⟩
          · rcases h with ⟨h4, -⟩ | ⟨-, h⟩
            · exact absurd h4 one0
            · rw [findG, if_pos ⟨by omega, e3, q⟩, h]
              apply Int32.toInt_inj.mp
              rw [hj, nIt (by omega)]
          · have hno : ¬ NmAt F T n a j := fun w => q w.2.2
            rcases h with (⟨-, h⟩ | ⟨h4, -⟩) | h
            · exact no hno h
            · exact absurd rfl h4
            · exact no hno h
theorem qm_find {F T L : Nat → Int32} {n a en tk wh ns r : Int32} (hn : IV n 0 900) (ha : IV a 0 900) (hk : TokM T n a en tk wh ns L) (h1 : tkF T n a = 1) (h : R_m_findX ns L F r) : r = findS F T n a := by
  obtain ⟨q, i, hi, h8, hi1, hl, he⟩ := tk1_inv hn ha h1
  obtain ⟨g1, g2⟩ := hk.2.2.1 h1
  simp only [R_m_findX] at h
  obtain ⟨f, h⟩ := h
  exact find_L0 (by omega) g1 g2 f 0 0 16 (by decide) (by decide) h
theorem findG_iv {F T : Nat → Int32} {n a : Int32} : ∀ g j : Nat, j + g = 16 → IV (findG F T n a g j) (-1) 15 := by
  intro g
  induction g with
  | zero => intro j _; rw [findG]; decide
  | succ g ih =>
    intro j hj
    rw [findG]
    by_cases q : NmAt F T n a j
    · rw [if_pos q, IV, nIt (by omega)]; omega
    · rw [if_neg q]; exact ih (j + 1) (by omega)
theorem findS_iv {F T : Nat → Int32} {n a : Int32} : IV (findS F T n a) (-1) 15 := findG_iv 16 0 (by decide)
/-- the letters of the name at a written into the slot s -/
def wrL (F T : Nat → Int32) (a s : Nat) : Nat → (Nat → Int32)
  | 0 => F
  | k + 1 => upd (wrL F T a s k) (183 + 8 * s + k) (T (a + k))
def wrN (F T : Nat → Int32) (n a : Int32) (s : Nat) : Nat → Int32 := upd (wrL F T a.toNatClampNeg s (lnF T n a)) (167 + s) (nI (lnF T n a))
theorem new_L0 {F T L : Nat → Int32} {n a ns p : Int32} {s : Nat} {κ : (Nat → Int32) → Prop} (hs : p.toInt = s) (hs2 : s < 16) (h8 : lnF T n a ≤ 8) (hns : ns.toInt = lnF T n a) (hL : ∀ k : Nat, k < lnF T n a → L k = T (a.toNatClampNeg + k)) : ∀ (f : Nat) (G : Nat → Int32) (u : Int32) (i : Nat), u.toInt = i → i ≤ lnF T n a → G = wrL F T a.toNatClampNeg s i → R_m_newNameX_L0 p ns L κ f G u → κ (wrL F T a.toNatClampNeg s (lnF T n a)) := by
  intro f
  induction f with
  | zero => intro G u i _ _ _ h; exact h.elim
  | succ f ih =>
    intro G u i hi hi2 hG h
    simp only [R_m_newNameX_L0] at h
    rcases h with ⟨h1, h⟩ | h
    · rw [le_I] at h1
      obtain rfl : i = lnF T n a := by omega
      rw [← hG]; exact h
    · refine exA1 h ?_
      clear h
      intro h1 h
      refine exE1 h ?_
      clear h
      intro z1 hz1 h
      refine exE1 h ?_
      clear h
      intro z2 hz2 h
      refine exE1 h ?_
      clear h
      intro z3 hz3 h
      refine exE1 h ?_
      clear h
      intro z4 hz4 h
      refine exE1 h ?_
      clear h
      intro G2 hG2 h
      refine exE1 h ?_
      clear h
      intro z5 hz5 h
      rw [le_I] at h1
      rw [ofI1] at hz5
      have e1 : z1.toInt = 8 * p.toInt := in_mul hz1 (by decide) (by decide) (show IV p 0 15 from ⟨by omega, by omega⟩) (by decide) (by decide)
      have e183 : (183 : Int32).toInt = 183 := by decide
      have e2 := in_add hz2 (show IV 183 183 183 from (by decide)) (show IV z1 0 120 from ⟨by omega, by omega⟩) (by decide) (by decide)
      have e3 := in_add hz3 (show IV z2 183 303 from ⟨by omega, by omega⟩) (show IV u 0 8 from ⟨by omega, by omega⟩) (by decide) (by decide)
      have en : z3.toNatClampNeg = 183 + 8 * s + i := by have := tn_i (z := z3) (by omega); omega
      have eu : u.toNatClampNeg = i := by have := tn_i (z := u) (by omega); omega
      have eu1 := inc1 (u := u) (z := u + 1) (a := 0) (b := 900) ⟨by omega, by omega⟩ (by omega) (by omega) rfl
      subst hz5
      refine ih G2 (u + 1) (i + 1) (by omega) (by omega) ?_ h
      rw [hG2, en, hz4, eu, hL i (by omega), hG]
      rfl
noncomputable def newS (F T : Nat → Int32) (n : Int32) (s : Nat) (a : Int32) : Rs ((Nat → Int32) × Int32) := @ite _ (NameOk T n a) (Classical.propDecidable _) (if findS F T n a < 0 then .inr (wrN F T n a s, nx T n a) else .inl (3, a)) (.inl (1, a))
noncomputable def oldS (F T : Nat → Int32) (n lo hi : Int32) (a : Int32) : Rs Int32 := @ite _ (NameOk T n a) (Classical.propDecidable _) (if findS F T n a < lo then .inl (2, a) else if hi < findS F T n a then .inl (2, a) else .inr (findS F T n a - lo)) (.inl (1, a))
def MF (T : Nat → Int32) (n : Int32) (F0 : Nat → Int32) (σ : Rs ((Nat → Int32) × Int32)) (at_ en fd ft : Int32) (F2 L : Nat → Int32) (ns pl tk wh : Int32) : Prop := match σ with
  | .inl e => MS T n (.inl e) at_ en fd ft L ns pl tk wh
  | .inr v => F2 = v.1 ∧ MS T n (.inr v.2) at_ en fd ft L ns pl tk wh
theorem qm_newName {F T L F2 L2 : Nat → Int32} {n p a en fd ft ns pl tk wh at2 en2 fd2 ft2 ns2 pl2 tk2 wh2 : Int32} {s : Nat} (hn : IV n 0 900) (hs : p.toInt = s) (hs2 : s < 16) (hm : MS T n (.inr a) a en fd ft L ns pl tk wh) (h : R_m_newNameX p n a en tk wh ns ft pl fd T L F at2 en2 fd2 ft2 F2 L2 ns2 pl2 tk2 wh2) : MF T n F (newS F T n s a) at2 en2 fd2 ft2 F2 L2 ns2 pl2 tk2 wh2 := by
  obtain ⟨s1, s2, -, s4, s5⟩ := hm
  simp only [R_m_newNameX] at h
  unfold newS
  rcases h with ⟨-, f1, u1, p1, hmn, h⟩ | ⟨h0, -⟩
  · rw [s1] at hmn
    rcases qm_mustName s5 hmn with ⟨ok, e1, e2, e3⟩ | ⟨no, e1, e2, e3⟩
    · rw [if_pos ok]
      rcases h with ⟨h0, -⟩ | ⟨-, r, hr, h⟩
      · exact absurd e1 h0
      · have er := qm_find hn s4 s5 ok.1 hr
        rcases h with ⟨h1, f, h⟩ | h
        · rw [er] at h1
          rw [if_pos h1]
          obtain ⟨q, i, hi, h8, hi1, hl, he⟩ := tk1_inv hn s4 ok.1
          obtain ⟨g1, g2⟩ := s5.2.2.1 ok.1
          obtain ⟨z1, hz1, G, hG, a2, n2, M2, m2, t2, w2, hx, k1, k2, k3, k4, k5, k6, k7, k8, k9, k10⟩ := new_L0 (n := n) (a := a) hs hs2 (by omega) g1 g2 f F 0 0 (by decide) (by omega) rfl h
          obtain ⟨x1, x2, x3⟩ := qm_next_at hn s4 s5 hx
          have e167 : (167 : Int32).toInt = 167 := by decide
          have ez := in_add hz1 (show IV 167 167 167 from (by decide)) (show IV p 0 15 from ⟨by omega, by omega⟩) (by decide) (by decide)
          have en' : z1.toNatClampNeg = 167 + s := by have := tn_i (z := z1) (by omega); omega
          have ens : ns = nI (lnF T n a) := Int32.toInt_inj.mp (by rw [g1, nIt (by omega)])
          subst k1 k2 k6 k7 k9 k10
          exact ⟨by rw [k5, hG, en', ens]; rfl, by rw [k3, e1], by rw [k4, e2, s2], x1, x2, x3⟩
        · refine exA1 h ?_
          clear h
          intro h1 h
          refine exE3 h ?_
          clear h
          intro f2 u2 p2 hb h
          refine exA9 h ?_
          clear h
          intro k1 k2 k3 k4 k5 k6 k7 k8 k9 k10
          rw [er] at h1
          rw [if_neg h1]
          obtain ⟨b1, b2, b3⟩ := qm_bad e1 hb
          exact ⟨by rw [k3, b1], by rw [k4, b2], by rw [k8, b3]⟩
    · rw [if_neg no]
      rcases h with h | ⟨h0, -⟩
      · refine exA10 h ?_
        clear h
        intro zn0 k1 k2 k3 k4 k5 k6 k7 k8 k9 k10
        clear zn0
        exact ⟨by rw [k3, e1], by rw [k4, e2], by rw [k8, e3]⟩
      · rw [e1] at h0; exact absurd h0 one0
  · exact absurd s1 h0
theorem qm_namedR {F T L : Nat → Int32} {n a en ft ns pl tk wh fd fd2 ft2 pl2 r : Int32} (hn : IV n 0 900) (ha : IV a 0 900) (h0 : fd = 0) (hk : TokM T n a en tk wh ns L) (h : R_m_namedRX a tk ns ft pl fd L F fd2 ft2 pl2 r) : (∃ f : Int32, oldS F T n 0 7 a = .inl (f, a) ∧ fd2 = 1 ∧ ft2 = f ∧ pl2 = a) ∨ (oldS F T n 0 7 a = .inr r ∧ fd2 = 0 ∧ ft2 = ft ∧ pl2 = pl) := by
  simp only [R_m_namedRX] at h
  unfold oldS
  rcases h with ⟨-, f1, u1, p1, hmn, h⟩ | ⟨h1, -⟩
  · rw [h0] at hmn
    rcases qm_mustName hk hmn with ⟨ok, e1, e2, e3⟩ | ⟨no, e1, e2, e3⟩
    · rw [if_pos ok]
      rcases h with ⟨-, r1, hr, r2, hi, h⟩ | ⟨h1, -⟩
      · have er := qm_find hn ha hk ok.1 hr
        rw [er] at hi h
        rcases qm_in hi with ⟨q, hq⟩ | ⟨q, q1, q2⟩
        · rcases h with ⟨h2, -⟩ | h
          · exact absurd q h2
          · refine exA1 h ?_
            clear h
            intro zn0 h
            refine exE3 h ?_
            clear h
            intro f2 u2 p2 hb h
            refine exA3 h ?_
            clear h
            intro k1 k2 k3 k4
            clear zn0
            obtain ⟨b1, b2, b3⟩ := qm_bad e1 hb
            refine Or.inl ⟨2, ?_, by rw [k1, b1], by rw [k2, b2], by rw [k3, b3]⟩
            by_cases ql : findS F T n a < 0
            · rw [if_pos ql]
            · rw [if_neg ql, if_pos (hq.resolve_left ql)]
        · rcases h with ⟨-, z, hz, k1, k2, k3, k4⟩ | ⟨h2, -⟩
          · refine Or.inr ⟨?_, by rw [k1, e1], by rw [k2, e2], by rw [k3, e3]⟩
            rw [if_neg q1, if_neg q2, k4, hz]
          · rw [q] at h2; exact absurd h2 one0
      · exact absurd e1 h1
    · rw [if_neg no]
      rcases h with ⟨h1, -⟩ | ⟨-, k1, k2, k3, k4⟩
      · rw [e1] at h1; exact absurd h1 one0
      · exact Or.inl ⟨1, rfl, by rw [k1, e1], by rw [k2, e2], by rw [k3, e3]⟩
  · exact absurd h0 h1
theorem qm_namedT {F T L : Nat → Int32} {n a en ft ns pl tk wh fd fd2 ft2 pl2 r : Int32} (hn : IV n 0 900) (ha : IV a 0 900) (h0 : fd = 0) (hk : TokM T n a en tk wh ns L) (h : R_m_namedTX a tk ns ft pl fd L F fd2 ft2 pl2 r) : (∃ f : Int32, oldS F T n 8 11 a = .inl (f, a) ∧ fd2 = 1 ∧ ft2 = f ∧ pl2 = a) ∨ (oldS F T n 8 11 a = .inr r ∧ fd2 = 0 ∧ ft2 = ft ∧ pl2 = pl) := by
  simp only [R_m_namedTX] at h
  unfold oldS
  rcases h with ⟨-, f1, u1, p1, hmn, h⟩ | ⟨h1, -⟩
  · rw [h0] at hmn
    rcases qm_mustName hk hmn with ⟨ok, e1, e2, e3⟩ | ⟨no, e1, e2, e3⟩
    · rw [if_pos ok]
      rcases h with ⟨-, r1, hr, r2, hi, h⟩ | ⟨h1, -⟩
      · have er := qm_find hn ha hk ok.1 hr
        rw [er] at hi h
        rcases qm_in hi with ⟨q, hq⟩ | ⟨q, q1, q2⟩
        · rcases h with ⟨h2, -⟩ | h
          · exact absurd q h2
          · refine exA1 h ?_
            clear h
            intro zn0 h
            refine exE3 h ?_
            clear h
            intro f2 u2 p2 hb h
            refine exA3 h ?_
            clear h
            intro k1 k2 k3 k4
            clear zn0
            obtain ⟨b1, b2, b3⟩ := qm_bad e1 hb
            refine Or.inl ⟨2, ?_, by rw [k1, b1], by rw [k2, b2], by rw [k3, b3]⟩
            by_cases ql : findS F T n a < 8
            · rw [if_pos ql]
            · rw [if_neg ql, if_pos (hq.resolve_left ql)]
        · rcases h with ⟨-, z, hz, k1, k2, k3, k4⟩ | ⟨h2, -⟩
          · refine Or.inr ⟨?_, by rw [k1, e1], by rw [k2, e2], by rw [k3, e3]⟩
            rw [if_neg q1, if_neg q2, k4, hz]
          · rw [q] at h2; exact absurd h2 one0
      · exact absurd e1 h1
    · rw [if_neg no]
      rcases h with ⟨h1, -⟩ | ⟨-, k1, k2, k3, k4⟩
      · rw [e1] at h1; exact absurd h1 one0
      · exact Or.inl ⟨1, rfl, by rw [k1, e1], by rw [k2, e2], by rw [k3, e3]⟩
  · exact absurd h0 h1
