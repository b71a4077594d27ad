set_option maxRecDepth 100000
set_option maxHeartbeats 4000000
theorem upd_upd {f : Nat → Int32} {i : Nat} {a b : Int32} : upd (upd f i a) i b = upd f i b := by
  funext j
  by_cases e : j = i
  · subst e; rw [upd_at, upd_at]
  · rw [upd_ne e, upd_ne e, upd_ne e]
theorem gone_it {a f x y : Int32} (hf : 1 ≤ f.toInt) : (if nlost a < f then x else y) = (if ¬ f ≤ a then x else y) := by
  by_cases g : f ≤ a
  · rw [if_neg (fun v => (gone_iff hf).mp v g), if_neg (fun v => v g)]
  · rw [if_pos ((gone_iff hf).mpr g), if_pos g]
theorem last_lt {m N : Nat} (hN : 1 ≤ N) (hN8 : N ≤ 8) (hm : m ≤ 1000) : (nI N - 1 < nI m) ↔ N ≤ m := by
  have e : (nI N - 1).toInt = N - 1 := by rw [subI (by rw [nI_toInt (by omega), oneI]; omega) (by rw [nI_toInt (by omega), oneI]; omega), nI_toInt (by omega), oneI]
  rw [lt_I, e, nI_toInt (by omega)]; omega
theorem ix_34s {m : Nat} (hm : m ≤ 100) : (((34 : Int32) + nI m) + (1 : Int32)).toNatClampNeg = 34 + (m + 1) := by
  have o34 : (34 : Int32).toInt = 34 := by decide
  have e1 : ((34 : Int32) + nI m).toInt = 34 + m := by rw [addI (by rw [o34, nI_toInt (by omega)]; omega) (by rw [o34, nI_toInt (by omega)]; omega), o34, nI_toInt (by omega)]
  have e2 : (((34 : Int32) + nI m) + (1 : Int32)).toInt = (34 + (m + 1) : Nat) := by rw [addI (by rw [e1, oneI]; omega) (by rw [e1, oneI]; omega), e1, oneI]; omega
  exact tnz e2
theorem lay_L {F S sp : Nat → Int32} {mi N : Nat} {sl : Int32} {κ : (Nat → Int32) → (Nat → Int32) → (Nat → Int32) → (Nat → Int32) → (Nat → Int32) → (Nat → Int32) → (Nat → Int32) → (Nat → Int32) → Prop} (hB : NB F S N) (h1N : 1 ≤ N) (hN : N ≤ 8) (hr : ∀ k : Nat, k < N → 0 ≤ (F (126 + k)).toInt ∧ (F (126 + k)).toInt ≤ 8) (hb : ∀ k : Nat, k < N → ∀ r : Int32, R_m_believesOfX (nI mi) (nI k) F S r → r = bel F S mi (F (126 + k))) (hs : ∀ k : Nat, k < N → sp k = sl) : ∀ (t : Nat) (be bl ch cf fr lo mo st : Nat → Int32) (m : Nat), m ≤ N → NM F S mi sl N m be bl ch cf fr lo mo st → R_m_layNightX_L0 (nI mi) F S sp (nI N - 1) κ t be bl ch cf fr lo mo st (nI m) → ∃ be2 bl2 ch2 cf2 fr2 lo2 mo2 st2 : Nat → Int32, κ be2 bl2 ch2 cf2 fr2 lo2 mo2 st2 ∧ NM F S mi sl N N be2 bl2 ch2 cf2 fr2 lo2 mo2 st2 := by
  intro t
  induction t with
  | zero => intro be bl ch cf fr lo mo st m _ _ h; exact h.elim
  | succ t ih =>
    intro be bl ch cf fr lo mo st m hm hM h
    rw [R_m_layNightX_L0] at h
    rcases h with ⟨q, h⟩ | ⟨q, r31, hr31, r34, hr34, h⟩
    · rw [last_lt h1N hN (by omega)] at q
      obtain rfl : m = N := by omega
      exact ⟨_, _, _, _, _, _, _, _, h, hM⟩
    · rw [last_lt h1N hN (by omega)] at q
      have hm2 : m < N := by omega
      have hR := hr m hm2
      rw [frames_m (by omega) hR] at hr31
      rw [gone_m (by omega) hR] at hr34
      have cm : (nI m).toNatClampNeg = m := nI_c (by omega)
      have em : nI m + Int32.ofInt 1 = nI (m + 1) := nI_s (by omega)
      obtain ⟨M1, M2, M3⟩ := hM
      obtain ⟨b1, b2, b3, b4⟩ := M2 m (by omega) hm2
      have b5 := M3 hm2
      obtain ⟨f0, f1⟩ := hB.2.2.1 m hm2
      rw [b3, gone_it (by omega)] at hr34
      rw [cm, last_n h1N hN (by omega)] at h
      subst hr31
      by_cases g : frN F S m ≤ (NTK F S mi sl N m).2.2
      · -- gone
        have n7 : NR F S mi sl N m 7 = (NTK F S mi sl N m).1 := by show (nst F S mi sl N m _).1 = _; unfold nst; rw [if_pos g]
        have n6 : NR F S mi sl N m 6 = (NTK F S mi sl N m).1 := by show (if _ then _ else _) = _; rw [if_pos g]
        have n5 : NR F S mi sl N m 5 = 0 := by show (if _ then _ else _) = _; rw [if_pos g]
        have n4 : NR F S mi sl N m 4 = -2 := by show (if _ then _ else _) = _; rw [if_pos g]
        have n0 : NR F S mi sl N m 0 = frN F S m := by show (if _ then _ else _) = _; rw [if_pos g]
        rcases h with ⟨w, -⟩ | ⟨-, z155, hz155, h⟩
        · rw [hr34] at w; exact absurd w (by rw [if_neg (fun v => v g)]; decide)
        rw [b1, n6] at hz155
        have more := NM_more (lo2 := upd lo m (frN F S m)) ⟨M1, M2, M3⟩ (ch2 := upd ch m z155) (cf2 := upd cf m 0) (st2 := upd st m (-2)) (by rw [n7, hz155]) (by rw [n5]) (by rw [n4]) (by rw [n0, upd_at]) (fun k hk => upd_ne (by omega))
        rcases h with ⟨w, z159, hz159, h⟩ | ⟨w, c1, c2, c3, c4, c5, hf, z173, hz173, h⟩
        · rw [em] at hz159
          subst hz159
          have e : m + 1 = N := by omega
          refine ih _ _ _ _ _ _ _ _ (m + 1) (by omega) ⟨more, fun k hk hk2 => M2 k (by omega) hk2, fun v => absurd v (by omega)⟩ h
        · have w : m + 1 < N := Decidable.not_not.mp w
          rw [em] at hz173
          subst hz173
          obtain ⟨y1, y2, y3, y4, y5⟩ := follows_m (by omega) (Or.inr rfl) hf
          have eN : NTK F S mi sl N (m + 1) = ((NTK F S mi sl N m).1, (NTK F S mi sl N m).1, 0) := by rw [NTK_s]; unfold nst; rw [if_pos g]
          refine ih _ _ _ _ _ _ _ _ (m + 1) (by omega) (NM_next hB w hN more M2 ?_ ?_ ?_ ?_ ?_) h
          · rw [y1, eN, hz155]
          · rw [y2, eN]
          · rw [y3, eN]
          · rw [y4, eN]
          · rw [y5, eN, hz155]
      · have n6 : NR F S mi sl N m 6 = (NTK F S mi sl N m).1 + nblack (NTK F S mi sl N m).2.2 := by show (if _ then _ else _) = _; rw [if_neg g]
        have n5 : NR F S mi sl N m 5 = nchange F S mi sl N m (NTK F S mi sl N m).2.2 := by show (if _ then _ else _) = _; rw [if_neg g]
        have n0 : NR F S mi sl N m 0 = nlost (NTK F S mi sl N m).2.2 := by show (if _ then _ else _) = _; rw [if_neg g]
        rcases h with ⟨-, h⟩ | ⟨w, -⟩
        case inr => rw [hr34, if_pos g] at w; exact absurd rfl w
        rcases h with ⟨w, z42, hz42, z43, hz43, z45, hz45, z46, hz46, h⟩ | ⟨w, r90, hr90, z92, hz92, z93, hz93, z95, hz95, r97, hr97, z99, hz99, r100, hr100, z103, hz103, z104, hz104, r106, hr106, z109, hz109, z110, hz110, z112, hz112, h⟩
        · -- the last
          rcases h with ⟨-, z51, hz51, h⟩ | ⟨w2, -⟩
          case inr => exact absurd w w2
          rw [em] at hz51
          subst hz51
          have n4 : NR F S mi sl N m 4 = -2 := by show (if _ then _ else (if _ then _ else _)) = _; rw [if_neg g, if_neg w]
          have c5 : nchange F S mi sl N m (NTK F S mi sl N m).2.2 = frN F S m := by unfold nchange; rw [if_neg w]
          have n7 : NR F S mi sl N m 7 = z46 := by
            show (nst F S mi sl N m _).1 = _
            unfold nst
            rw [if_neg g, if_neg w, c5, hz46, hz45, hz43, hz42, b1, b3, n6]
          have more := NM_more (lo2 := lo) ⟨M1, M2, M3⟩ (ch2 := upd ch m z46) (cf2 := upd cf m (frN F S m)) (st2 := upd st m (-2)) (by rw [n7]) (by rw [n5, c5]) (by rw [n4]) (by rw [n0, b5]) (fun k hk => rfl)
          refine ih _ _ _ _ _ _ _ _ (m + 1) (by omega) ⟨more, fun k hk hk2 => M2 k (by omega) hk2, fun v => absurd v w⟩ h
        · -- another comes
          rcases h with ⟨w2, -⟩ | ⟨-, z124, hz124, z126, hz126, z128, hz128, z130, hz130, z131, hz131, z133, hz133, z136, hz136, z139, hz139, z140, hz140, c1, c2, c3, c4, c5, hf, z149, hz149, h⟩
          · exact absurd w2 w
          have w : m + 1 < N := Decidable.not_not.mp w
          rw [em] at hz149
          subst hz149
          have kb := hb m hm2 r90 hr90
          rw [hs m hm2] at hz92
          rw [tc_0] at hz103
          rw [tc_1] at hz130
          have e136 : z136.toNatClampNeg = 34 + (m + 1) := by rw [hz136, hz133]; exact ix_34s (by omega)
          rw [e136] at hz139
          have k97 := le_sh hr97
          have k100 := mo_sh hr100
          have k106 := le_sh hr106
          have ks : r100 = nstart F S mi sl m (NTK F S mi sl N m).2.2 := by
            rw [k100, k97, hz99, b3, hz95, hz93, hz92, kb]
            rfl
          have kc : r106 = nchange F S mi sl N m (NTK F S mi sl N m).2.2 := by
            unfold nchange
            rw [if_pos w, k106, hz104, hz103, ks]
          have n4 : NR F S mi sl N m 4 = r100 := by show (if _ then _ else (if _ then _ else _)) = _; rw [if_neg g, if_pos w, ks]
          have eN : NTK F S mi sl N (m + 1) = (z112, z126, z140) := by
            rw [NTK_s]
            unfold nst
            rw [if_neg g, if_pos w, hz112, hz110, hz109, hz126, hz124, hz109, hz140, hz139, hz131, hz130, hz128, hz99, b1, b3, n6, ks, kc]
          have n7 : NR F S mi sl N m 7 = z112 := by
            show (nst F S mi sl N m (NTK F S mi sl N m)).1 = _
            rw [← NTK_s, eN]
          rw [upd_upd, upd_upd] at h
          have more := NM_more (lo2 := lo) ⟨M1, M2, M3⟩ (ch2 := upd ch m z112) (cf2 := upd cf m r106) (st2 := upd st m r100) (by rw [n7]) (by rw [n5, kc]) (by rw [n4]) (by rw [n0, b5]) (fun k hk => rfl)
          obtain ⟨y1, y2, y3, y4, y5⟩ := follows_m (by omega) (Or.inl rfl) hf
          refine ih _ _ _ _ _ _ _ _ (m + 1) (by omega) (NM_next hB w hN more M2 ?_ ?_ ?_ ?_ ?_) h
          · rw [y1, eN]
          · rw [y2, eN]
          · rw [y3, eN]
          · rw [y4, eN]
          · rw [y5, eN]
