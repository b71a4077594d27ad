theorem strL_tbl : ∀ q ∈ strL, Cond.stringRef q.1 q.2.1 q.2.2 ∈ lw_tbl := by decide +kernel
theorem nestL_tbl : ∀ q ∈ nestL, Cond.methodLinkNest q.1 q.2.1 q.2.2.1 q.2.2.2 ∈ lw_tbl := by decide +kernel
theorem ao_tbl : Cond.arrayOver (.object "ReelChange$State") ∈ lw_tbl := by decide +kernel
theorem ca_tbl : Cond.castable nseN nseN ∈ lw_tbl := by decide +kernel
theorem zs1_tbl : Cond.laysStatic Bundle.tN "UNASSIGNED_STACK" Bundle.steD ∈ lw_tbl := by decide +kernel
theorem zs2_tbl : Cond.laysStatic Bundle.tN "SUPPRESSED_SENTINEL" Bundle.listD ∈ lw_tbl := by decide +kernel
theorem zi_tbl : Cond.initialized Bundle.tN ∈ lw_tbl := by decide +kernel
theorem cs_tbl : Cond.laysStatic strN "COMPACT_STRINGS" "Z" ∈ lw_tbl := by decide +kernel
theorem ci_tbl : Cond.initialized strN ∈ lw_tbl := by decide +kernel
theorem sf_tbl : Cond.laysStatic pcN "SIOOBE_FORMATTER" bfD ∈ lw_tbl := by decide +kernel
theorem si_tbl : Cond.initialized pcN ∈ lw_tbl := by decide +kernel
def strT (q : String × Nat × String) : Term := .string q.1 q.2.1
def strC (q : String × Nat × String) : List Cond := [.exactly (strT q) strN, .eq (.field (strT q) strN "coder" "B") (.int 0), .arrayOf (.field (strT q) strN "value" "[B") .byte, .eq (.length (.field (strT q) strN "value" "[B")) (.int (Int32.ofNat (sBy q.2.2).length))] ++ (List.range (sBy q.2.2).length).map (fun j => .eq (.elem (.field (strT q) strN "value" "[B") (.int (Int32.ofNat j))) (.int ((sBy q.2.2).getD j 0)))
theorem strL_key : ∀ q ∈ strL, ∀ q' ∈ strL, q.1 = q'.1 → q.2.1 = q'.2.1 → q = q' := by decide +kernel
def strP : List Nat := [23, 32, 41, 50, 60, 69, 77, 85, 91, 99, 107, 115, 123, 131, 138, 147, 155, 163, 174, 184, 193, 202, 211, 220, 229, 238, 247, 255, 265, 273, 281, 290, 299, 307, 317, 327, 337, 348, 358, 367, 376, 385, 394, 403, 412, 421, 429, 439, 448, 455, 464, 476, 487, 497, 507, 517, 527, 537, 547, 557, 566, 577, 586, 595, 605, 615]
theorem strP_ok : (List.range 66).all (fun i => decide (((flatC (Jvm.Cond.and given_1 narrow_1)).drop (strP.getD i 0)).take (strC (strL.getD i ("", 0, ""))).length = strC (strL.getD i ("", 0, "")))) = true := by decide +kernel
theorem strL_n : strL.length = 66 := by decide +kernel
theorem strC_in : ∀ q ∈ strL, ∀ w ∈ strC q, w ∈ flatC (Jvm.Cond.and given_1 narrow_1) := by
  intro q hq w hw
  obtain ⟨i, hi⟩ := List.mem_iff_getElem?.mp hq
  have hl : i < strL.length := (List.getElem?_eq_some_iff.mp hi).1
  rw [strL_n] at hl
  have h := List.all_eq_true.mp strP_ok i (List.mem_range.mpr hl)
  have h2 := of_decide_eq_true h
  have e : strL.getD i ("", 0, "") = q := by rw [List.getD_eq_getElem?_getD, hi]; rfl
  rw [e] at h2
  rw [← h2] at hw
  exact List.mem_of_mem_drop (List.mem_of_mem_take hw)
theorem isRef_ev {args : Array Value} {s : State} {t : Term} (h : (Cond.isRef t).before args s = true) : ∃ v : Value, t.eval args s none [] s = some v ∧ (v = .null ∨ ∃ b : Nat, v = .ref b) := by
  simp only [Cond.before, Cond.holds, Cond.value] at h
  cases he : t.eval args s none [] s with
  | none => simp [he] at h
  | some v =>
    refine ⟨v, rfl, ?_⟩
    rw [he] at h
    cases v with
    | null => exact Or.inl rfl
    | ref a => exact Or.inr ⟨a, rfl⟩
    | _ => simp [Value.isRef] at h
set_option maxHeartbeats 4000000 in
set_option maxRecDepth 100000 in
theorem k_start {p : Program} {s : State} {m : MethodId} {meth : Method} {c : Code} {b L : Nat} {xs : Nat → Int32} (C0 : lw_At p s m meth c b L xs) : ∃ g : Gx, kK g s ∧ kS g (fun q : Nat => s.heap.size ≤ q) s s.heap := by
  obtain ⟨hx, hb, hr, hml, hown, hts, hX, hbl, hlocks, hgv⟩ := C0
  have hts0 : ∀ w ∈ wsL_law0, w.before #[Value.ref b] s = true := fun w h => hts w (wsL_in w h)
  have hf := flat_of_before _ hgv
  have hA : ∀ a : Nat, a < s.heap.size → ¬ (fun q : Nat => s.heap.size ≤ q) a := fun a h => Nat.not_le.mpr h
  obtain ⟨c0, i0, hk0⟩ := u_known (C := RX0) (T := TX0) (N := 2) (n := 2) hts0 inlX0 (hts0 _ mw34)
  obtain ⟨c1, i1, hk1⟩ := u_known (C := RX1) (T := TX1) (N := 3) (n := 3) hts0 inlX1 (hts0 _ mw42)
  obtain ⟨c2, i2, hk2⟩ := u_known (C := RX2) (T := TX2) (N := 2) (n := 2) hts0 inlX2 (hts0 _ mw46)
  obtain ⟨c3, i3, hk3⟩ := u_known (C := RX3) (T := TX3) (N := 8) (n := 8) hts0 inlX3 (hts0 _ mw18)
  obtain ⟨c4, i4, hk4⟩ := u_known (C := RX4) (T := TX4) (N := 5) (n := 5) hts0 inlX4 (hts0 _ mw26)
  obtain ⟨c5, i5, hk5⟩ := u_known (C := RX5) (T := TX5) (N := 9) (n := 9) hts0 inlX5 (hts0 _ mw30)
  obtain ⟨c6, i6, hk6⟩ := u_known (C := RX6) (T := TX6) (N := 3) (n := 3) hts0 inlX6 (hts0 _ mw38)
  obtain ⟨c7, i7, hk7⟩ := u_known (C := RX7) (T := TX7) (N := 6) (n := 6) hts0 inlX7 (hts0 _ mw22)
  obtain ⟨c8, i8, hk8⟩ := u_known (C := RX8) (T := TX8) (N := 4) (n := 4) hts0 inlX8 (hts0 _ mw63)
  obtain ⟨c9, i9, hk9⟩ := u_known (C := RX9) (T := TX9) (N := 15) (n := 15) hts0 inlX9 (hts0 _ mw14)
  obtain ⟨c10, i10, hk10⟩ := u_known (C := RX10) (T := TX10) (N := 10) (n := 10) hts0 inlX10 (hts0 _ mw1)
  obtain ⟨c11, i11, hk11⟩ := u_known (C := RX11) (T := TX11) (N := 43) (n := 43) hts0 inlX11 (hts0 _ mw4)
  obtain ⟨cyB, kAB, coB, f1B, f2B, f3B⟩ := Cond.arrayClass_spec (hts0 _ mw58)
  obtain ⟨cyI, kAI, coI, f1I, f2I, f3I⟩ := Cond.arrayClass_spec (hts0 _ mw107)
  obtain ⟨cyJ, kAJ, coJ, f1J, f2J, f3J⟩ := Cond.arrayClass_spec (hts0 _ mw6)
  have hao : va_AO "ReelChange$State" s := va_AO.of (hts _ ao_tbl)
  obtain ⟨co, cyO, kO, o1, o2, o3, o4, o5⟩ := Cond.arrayOver_spec hao
  have hstr : ∀ q : String × Nat × String, ∃ z : Nat × Nat, q ∈ strL → vk_R q.1 q.2.1 q.2.2 z.1 s ∧ va_O strN z.1 (fun q : Nat => s.heap.size ≤ q) s s.heap ∧ va_OF strN "coder" "B" (.int 0) z.1 (fun q : Nat => s.heap.size ≤ q) s s.heap ∧ va_OF strN "value" "[B" (.ref z.2) z.1 (fun q : Nat => s.heap.size ≤ q) s s.heap ∧ va_T .byte z.2 (sBy q.2.2).length (fun j => .int ((sBy q.2.2).getD j 0)) (fun q : Nat => s.heap.size ≤ q) s s.heap := by
    intro q
    by_cases hq : q ∈ strL
    · have hc : ∀ w ∈ strC q, w.before #[Value.ref b] s = true := fun w hw => hf w (strC_in q hq w hw)
      have hlen : (sBy q.2.2).length ≤ 8 := strL_len q hq
      have c0 : (Cond.exactly (strT q) strN).before #[Value.ref b] s = true := hc _ (List.mem_append_left _ (by simp))
      have c1 : (Cond.eq (.field (strT q) strN "coder" "B") (.int 0)).before #[Value.ref b] s = true := hc _ (List.mem_append_left _ (by simp))
      have c2 : (Cond.arrayOf (.field (strT q) strN "value" "[B") .byte).before #[Value.ref b] s = true := hc _ (List.mem_append_left _ (by simp))
      have c3 : (Cond.eq (.length (.field (strT q) strN "value" "[B")) (.int (Int32.ofNat (sBy q.2.2).length))).before #[Value.ref b] s = true := hc _ (List.mem_append_left _ (by simp))
      have c4 : ∀ j : Nat, j < (sBy q.2.2).length → (Cond.eq (.elem (.field (strT q) strN "value" "[B") (.int (Int32.ofNat j))) (.int ((sBy q.2.2).getD j 0))).before #[Value.ref b] s = true := fun j hj => hc _ (List.mem_append_right _ (List.mem_map.mpr ⟨j, List.mem_range.mpr hj, rfl⟩))
      obtain ⟨adK, adV, hS, hev⟩ := vk_Sof (args := #[Value.ref b]) (s := s) (N := 1) (tm := fun _ => strT q) (len := [(sBy q.2.2).length]) (byt := [sBy q.2.2]) (A := fun q : Nat => s.heap.size ≤ q)
        (fun i hi => by
          obtain rfl : i = 0 := by omega
          show (sBy q.2.2).length < 2 ^ 31
          omega)
        (fun i hi => c0) (fun i hi => c1) (fun i hi => c2)
        (fun i hi => by
          obtain rfl : i = 0 := by omega
          exact c3)
        (fun i hi j hj => by
          obtain rfl : i = 0 := by omega
          exact c4 j hj)
        (fun i j hi hj hij => by omega) hA
      obtain ⟨h1, h2, h3, h4⟩ := hS.1 0 (by omega)
      refine ⟨(adK 0, adV 0), fun _ => ⟨vk_R.of (hts _ (strL_tbl q hq)) (hev 0 (by omega)), h1, h2, h3, h4⟩⟩
    · exact ⟨(0, 0), fun h => absurd h hq⟩
  obtain ⟨ad, had⟩ := Classical.axiomOfChoice hstr
  have hkey : ∀ q ∈ strL, ∀ q' ∈ strL, q.1 = q'.1 → q.2.1 = q'.2.1 → q = q' := by
    intro q hq q' hq' e1 e2
    exact strL_key q hq q' hq' e1 e2
  have hpick : ∀ (o : String) (i : Nat), ∃ z : Nat × Nat, ∀ q ∈ strL, q.1 = o → q.2.1 = i → z = ad q := by
    intro o i
    by_cases hh : ∃ q ∈ strL, q.1 = o ∧ q.2.1 = i
    · obtain ⟨q, hq, e1, e2⟩ := hh
      exact ⟨ad q, fun q' hq' g1 g2 => by rw [hkey q hq q' hq' (e1.trans g1.symm) (e2.trans g2.symm)]⟩
    · exact ⟨(0, 0), fun q hq e1 e2 => absurd ⟨q, hq, e1, e2⟩ hh⟩
  obtain ⟨pk, hpk⟩ := Classical.axiomOfChoice (fun o : String => Classical.axiomOfChoice (hpick o))
  refine ⟨((fun k => match k with | 0 => c0 | 1 => c1 | 2 => c2 | 3 => c3 | 4 => c4 | 5 => c5 | 6 => c6 | 7 => c7 | 8 => c8 | 9 => c9 | 10 => c10 | _ => c11, fun k => match k with | 0 => i0 | 1 => i1 | 2 => i2 | 3 => i3 | 4 => i4 | 5 => i5 | 6 => i6 | 7 => i7 | 8 => i8 | 9 => i9 | 10 => i10 | _ => i11), cyB, cyI, cyJ, cyO, (fun o i => (pk o i).1, fun o i => (pk o i).2)), ⟨⟨?_, ?_⟩, hao, ?_, ?_, ?_⟩, ?_, ?_, ?_⟩
  · intro k q hq
    match k, hq with
    | 0, hq => cases hq; exact hk0
    | 1, hq => cases hq; exact hk1
    | 2, hq => cases hq; exact hk2
    | 3, hq => cases hq; exact hk3
    | 4, hq => cases hq; exact hk4
    | 5, hq => cases hq; exact hk5
    | 6, hq => cases hq; exact hk6
    | 7, hq => cases hq; exact hk7
    | 8, hq => cases hq; exact hk8
    | 9, hq => cases hq; exact hk9
    | 10, hq => cases hq; exact hk10
    | 11, hq => cases hq; exact hk11
    | k + 12, hq => simp [vwCl] at hq
  · intro k q hq
    match k, hq with
    | 0, hq => cases hq; exact ⟨fun n z => ⟨fun k h => (by cases h), kAB, f2B, coB, f3B⟩, f1B⟩
    | 1, hq => cases hq; exact ⟨fun n z => ⟨fun k h => (by cases h), kAI, f2I, coI, f3I⟩, f1I⟩
    | 2, hq => cases hq; exact ⟨fun n z => ⟨fun k h => (by cases h), kAJ, f2J, coJ, f3J⟩, f1J⟩
    | 3, hq => cases hq; exact ⟨fun n z => ⟨fun k h => (by cases h), kO, o3, co, o4⟩, kO, co, o3, o4, o1, o5⟩
    | k + 4, hq => simp at hq
  · intro q hq
    exact ⟨_, (had q hq).1⟩
  · intro q hq
    exact va_Nw.of rfl (hts _ (nestL_tbl q hq))
  · exact va_Nw.of rfl (hts _ ca_tbl)
  · exact va_Zof (hts _ cs_tbl) (hts _ ci_tbl) (va_eqt (hf _ (by decide +kernel))) hA
  · have hr1 : (Cond.isRef (.static pcN "SIOOBE_FORMATTER" bfD)).before #[Value.ref b] s = true := hf _ (by decide +kernel)
    obtain ⟨v, hv1, hv2⟩ := isRef_ev hr1
    exact ⟨v, hv2, va_Zof (hts _ sf_tbl) (hts _ si_tbl) hv1 hA⟩
  · intro q hq
    have e := hpk q.1 q.2.1 q hq rfl rfl
    have h := had q hq
    show vk_R q.1 q.2.1 q.2.2 (pk q.1 q.2.1).1 s ∧ va_O strN (pk q.1 q.2.1).1 _ s s.heap ∧ va_OF strN "coder" "B" (.int 0) (pk q.1 q.2.1).1 _ s s.heap ∧ va_OF strN "value" "[B" (.ref (pk q.1 q.2.1).2) (pk q.1 q.2.1).1 _ s s.heap ∧ va_T .byte (pk q.1 q.2.1).2 _ _ _ s s.heap
    rw [e]
    exact h
set_option maxHeartbeats 4000000 in
set_option maxRecDepth 100000 in
theorem k_go {p : Program} {l : Launch} {e : Env} {s : State} {m : MethodId} {below : List Frame} {meth : Method} {c : Code} {b L : Nat} {xs : Nat → Int32} (g : Gx) (hKg : kK g s) (hSt : kS g (fun q : Nat => s.heap.size ≤ q) s s.heap) (hlt : l.stackTraces = false) (hL : L ≤ 3072) (C0 : lw_At p s m meth c b L xs) : W p l e room_1 s m #[Value.ref b] below meth c s.heap [] 0 0 (lw_Z below #[Value.ref b] s) (entryFrame m ([Value.ref b] : List Value).toArray 7) := by
  obtain ⟨hx, hb, hr, hml, hown, hts, hX, hbl, hlocks, hgv⟩ := C0
  have X : Cx p s m meth c #[Value.ref b] cL_law 7 RL (fun q : Nat => s.heap.size ≤ q) g := ⟨hx, hb, hml, hown, fun w h => hts w (wsL_in w h), hKg, fun _ h => h, hlocks, hSt⟩
  have hbA : ¬ (fun q : Nat => s.heap.size ≤ q) b := Nat.not_le.mpr hbl
  have hf := flat_of_before _ hgv
  have hZ : kZ (fun q : Nat => s.heap.size ≤ q) s s.heap := ⟨vx_Zqof (hts _ zs1_tbl) (hts _ zi_tbl) (hf _ (by decide +kernel)) (fun a h => Nat.not_le.mpr h), vx_Zqof (hts _ zs2_tbl) (hts _ zi_tbl) (hf _ (by decide +kernel)) (fun a h => Nat.not_le.mpr h), fun q hq => va_Nw.of rfl (hts _ (de_tbl q hq))⟩
  rw [lg_entry_eq]
  refine law_begin X (fun h0 mo lo cf xw mw hx0 hm0 => ?_) s.heap [] _ (fun k q h => by simp at h) ⟨fun i j p q h => by simp at h, fun k q h => by simp at h⟩ va_S.rf (lv_entry [.ref b] (n := 7) (Nat.le_of_ble_eq_true rfl))
  exact law_loop X hX hbl hbA hr (fun _ h => h) hL hlt hZ (fun w h => hts w (wsE_in w h)) _ 0 0 (fun _ => 0) (fun _ => 0) 0 (fun _ => 0) 0 (fun _ => 0) 0 (fun _ => 0) 0 (fun _ => 0) 0 (fun _ => 0) 0 (fun _ => 0) 0 0 0 0 0 0 (fun _ => 0) (fun _ => 0) (fun _ => 0) (fun _ => 0) 0 0 0 cf 0 (fun _ => 0) (fun _ => 0) (fun _ => 0) (fun _ => 0) (fun _ => 0) 0 0 0 xw mw (fun _ => 0) 242 6346 rfl (by rw [zI]; omega) (by rw [zI]; omega) (by rw [zI]; omega) hx0 hm0 LR0
