theorem dL_law_0 : decode cL_law 0 = .ok (.new 8, 3) := by decide +kernel
theorem dL_law_3 : decode cL_law 3 = .ok (.dup, 1) := by decide +kernel
theorem dL_law_4 : decode cL_law 4 = .ok (.invokespecial 15, 3) := by decide +kernel
theorem dL_law_7 : decode cL_law 7 = .ok (.astore_n 1, 1) := by decide +kernel
theorem dL_law_8 : decode cL_law 8 = .ok (.new 16, 3) := by decide +kernel
theorem dL_law_11 : decode cL_law 11 = .ok (.dup, 1) := by decide +kernel
theorem dL_law_12 : decode cL_law 12 = .ok (.invokespecial 18, 3) := by decide +kernel
theorem dL_law_15 : decode cL_law 15 = .ok (.astore_n 2, 1) := by decide +kernel
theorem dL_law_16 : decode cL_law 16 = .ok (.iconst 1, 1) := by decide +kernel
theorem dL_law_17 : decode cL_law 17 = .ok (.newarray .long, 2) := by decide +kernel
theorem dL_law_19 : decode cL_law 19 = .ok (.astore_n 3, 1) := by decide +kernel
theorem dL_law_20 : decode cL_law 20 = .ok (.iconst 0, 1) := by decide +kernel
theorem dL_law_21 : decode cL_law 21 = .ok (.istore 4, 2) := by decide +kernel
set_option maxHeartbeats 4000000 in
set_option maxRecDepth 100000 in
theorem MW_of {g : Gx} {mo : Nat} {w : va_W} (h : ∃ a_tape a_letters a_r a_fresh a_st a_undone a_kept a_from a_begin a_motor a_change a_startFrame a_changeFrame a_lostAt a_blackAt a_slips a_leftArc a_died a_arcs a_there a_backAt a_sorted a_parts, w = ((cO11_i1r1i10r1i2r5i2r12i3r4i2 mo 0 a_tape 0 0 0 0 0 0 0 0 (-1) 0 a_letters 0 0 a_r a_fresh a_st a_undone a_kept 0 0 a_from a_begin a_motor a_change a_startFrame a_changeFrame a_lostAt a_blackAt a_slips a_leftArc a_died a_arcs 0 0 0 a_there a_backAt a_sorted a_parts 0 0) :: (cAI g a_tape 900 (fun _ => 0)) :: (cAI g a_letters 8 (fun _ => 0)) :: (cAI g a_r 311 (fun _ => 0)) :: (cAI g a_fresh 311 (fun _ => 0)) :: (cAI g a_st 44 (fun _ => 0)) :: (cAI g a_undone 528 (fun _ => 0)) :: (cAI g a_kept 132 (fun _ => 0)) :: (cAI g a_from 8 (fun _ => 0)) :: (cAI g a_begin 8 (fun _ => 0)) :: (cAI g a_motor 8 (fun _ => 0)) :: (cAI g a_change 8 (fun _ => 0)) :: (cAI g a_startFrame 8 (fun _ => 0)) :: (cAI g a_changeFrame 8 (fun _ => 0)) :: (cAI g a_lostAt 8 (fun _ => 0)) :: (cAI g a_blackAt 8 (fun _ => 0)) :: (cAI g a_slips 8 (fun _ => 0)) :: (cAI g a_leftArc 8 (fun _ => 0)) :: (cAI g a_died 8 (fun _ => 0)) :: (cAI g a_arcs 2 (fun _ => 0)) :: (cAI g a_there 8 (fun _ => 0)) :: (cAI g a_backAt 4 (fun _ => 0)) :: (cAI g a_sorted 8 (fun _ => 0)) :: (cAI g a_parts 256 (fun _ => 0)) :: [])) : MW g mo 0 (fun _ => 0) (fun _ => 0) (fun _ => 0) (fun _ => 0) (fun _ => 0) 0 0 0 w := by
  obtain ⟨a_tape, a_letters, a_r, a_fresh, a_st, a_undone, a_kept, a_from, a_begin, a_motor, a_change, a_startFrame, a_changeFrame, a_lostAt, a_blackAt, a_slips, a_leftArc, a_died, a_arcs, a_there, a_backAt, a_sorted, a_parts, rfl⟩ := h
  exact ⟨(uu (fun _ => 0) 8 (-1)), (nth 0 (a_tape :: a_letters :: a_r :: a_fresh :: a_st :: a_undone :: a_kept :: a_from :: a_begin :: a_motor :: a_change :: a_startFrame :: a_changeFrame :: a_lostAt :: a_blackAt :: a_slips :: a_leftArc :: a_died :: a_arcs :: a_there :: a_backAt :: a_sorted :: a_parts :: [])), (fun _ => fun _ => 0), (fun _ => fun _ => 0), (fun _ => fun _ => 0), (fun _ => fun _ => 0), (fun _ => fun _ => 0), (fun _ => fun _ => 0), (fun _ => fun _ => 0), (fun _ => fun _ => 0), (fun _ => fun _ => 0), (fun _ => fun _ => 0), (fun _ => fun _ => 0), (fun _ => fun _ => 0), (fun _ => fun _ => 0), (fun _ => fun _ => 0), (fun _ => fun _ => 0), (fun _ => fun _ => 0), (fun _ => fun _ => 0), (fun _ => fun _ => 0), (by decide), (by decide), (by decide), (by decide), (by decide), (by decide), (by decide), (by decide), rinv0, rinv0, tri0, List.Perm.refl _⟩
set_option maxHeartbeats 4000000 in
set_option maxRecDepth 100000 in
theorem law_begin {p : Program} {l : Launch} {e : Env} {s : State} {m : MethodId} {below : List Frame} {meth : Method} {c : Code} {A : Nat → Prop} {g : Gx} {b : Nat} (X : Cx p s m meth c #[Value.ref b] cL_law 7 RL A g) (kk : ∀ (h0 mo lo : Nat) (cf : Nat → SC) (xw mw : va_W), XW g h0 0 (fun _ => 0) (fun _ => 0) 0 (fun _ => 0) 0 (fun _ => 0) 0 (fun _ => 0) 0 (fun _ => 0) 0 (fun _ => 0) 0 (fun _ => 0) 0 0 0 0 0 0 (fun _ => 0) (fun _ => 0) (fun _ => 0) (fun _ => 0) 0 0 0 cf xw → MW g mo 0 (fun _ => 0) (fun _ => 0) (fun _ => 0) (fun _ => 0) (fun _ => 0) 0 0 0 mw → Wk p l e room_1 s m #[Value.ref b] below meth c (lw_Z below #[Value.ref b] s) A g 7 242 6346 (xw ++ (mw ++ [(cAJ g lo 1 (fun _ => 0))])) [(4, .int 0), (3, .ref lo), (2, .ref mo), (1, .ref h0), (0, .ref b)] 23 []) : Wk p l e room_1 s m #[Value.ref b] below meth c (lw_Z below #[Value.ref b] s) A g 7 0 0 [] [(0, .ref b)] 0 [] := by
  refine k_new (ci := 10) (fs := [.null, .null, .null, .null, .null, .null, .null, .null, .null, .int 0]) X inlX10 rfl tyX10_ok dL_law_0 mw0 mw1 mw2 (fun j hj => by rcases (show j = 0 ∨ j = 1 ∨ j = 2 ∨ j = 3 ∨ j = 4 ∨ j = 5 ∨ j = 6 ∨ j = 7 ∨ j = 8 ∨ j = 9 by omega) with rfl | rfl | rfl | rfl | rfl | rfl | rfl | rfl | rfl | rfl <;> rfl) (Nat.le_of_ble_eq_true rfl) (Nat.le_of_ble_eq_true rfl) (fun q1 => ?_)
  refine k_ws [(cO10_nnnnnnnnni q1 0)] rfl ?_
  refine k_dup X dL_law_3 rfl ?_
  refine k_callIIP (n := 0) (As := []) (st := [.ref q1]) X [(cO10_nnnnnnnnni q1 0)] [] (List.Perm.refl _) (i_RC l g q1) dL_law_4 mw7 mw8 mw2 mw9 rfl yk_yX10_init_0 rfl (Nat.le_of_ble_eq_true rfl) (Nat.le_of_ble_eq_true rfl) (Nat.le_of_ble_eq_true rfl) (Nat.le_of_ble_eq_true rfl) (Nat.le_of_ble_eq_true rfl) ?_
  rintro xw ⟨cf, hx⟩
  refine k_ws xw rfl ?_
  refine k_wide 217 3702 (Nat.le_of_ble_eq_true rfl) (Nat.le_of_ble_eq_true rfl) ?_
  refine k_astore_n [(1, .ref q1), (0, .ref b)] X dL_law_7 (by decide) rfl ?_
  refine k_new (ci := 11) (fs := (.int 0 :: .null :: .int 0 :: .int 0 :: .int 0 :: .int 0 :: .int 0 :: .int 0 :: .int 0 :: .int 0 :: .int 0 :: .int 0 :: .null :: .int 0 :: .int 0 :: .null :: .null :: .null :: .null :: .null :: .int 0 :: .int 0 :: .null :: .null :: .null :: .null :: .null :: .null :: .null :: .null :: .null :: .null :: .null :: .null :: .int 0 :: .int 0 :: .int 0 :: .null :: .null :: .null :: .null :: .int 0 :: .int 0 :: [])) X inlX11 rfl tyX11_ok dL_law_8 mw3 mw4 mw5 (fun j hj => by rcases (show j = 0 ∨ j = 1 ∨ j = 2 ∨ j = 3 ∨ j = 4 ∨ j = 5 ∨ j = 6 ∨ j = 7 ∨ j = 8 ∨ j = 9 ∨ j = 10 ∨ j = 11 ∨ j = 12 ∨ j = 13 ∨ j = 14 ∨ j = 15 ∨ j = 16 ∨ j = 17 ∨ j = 18 ∨ j = 19 ∨ j = 20 ∨ j = 21 ∨ j = 22 ∨ j = 23 ∨ j = 24 ∨ j = 25 ∨ j = 26 ∨ j = 27 ∨ j = 28 ∨ j = 29 ∨ j = 30 ∨ j = 31 ∨ j = 32 ∨ j = 33 ∨ j = 34 ∨ j = 35 ∨ j = 36 ∨ j = 37 ∨ j = 38 ∨ j = 39 ∨ j = 40 ∨ j = 41 ∨ j = 42 by omega) with rfl | rfl | rfl | rfl | rfl | rfl | rfl | rfl | rfl | rfl | rfl | rfl | rfl | rfl | rfl | rfl | rfl | rfl | rfl | rfl | rfl | rfl | rfl | rfl | rfl | rfl | rfl | rfl | rfl | rfl | rfl | rfl | rfl | rfl | rfl | rfl | rfl | rfl | rfl | rfl | rfl | rfl | rfl <;> rfl) (Nat.le_of_ble_eq_true rfl) (Nat.le_of_ble_eq_true rfl) (fun q2 => ?_)
  refine k_dup X dL_law_11 rfl ?_
  refine k_callIIP (n := 0) (As := []) (st := [.ref q2]) X [(cO11_i1n1i10n1i2n5i2n12i3n4i2 q2 0 0 0 0 0 0 0 0 0 0 0 0 0 0 0 0 0 0 0 0)] xw (List.Perm.refl _) (i_M l g q2) dL_law_12 mw163 mw164 mw5 mw165 rfl yk_yX11_init_0 rfl (Nat.le_of_ble_eq_true rfl) (Nat.le_of_ble_eq_true rfl) (Nat.le_of_ble_eq_true rfl) (Nat.le_of_ble_eq_true rfl) (Nat.le_of_ble_eq_true rfl) ?_
  intro mw hm
  have hm2 := MW_of hm
  clear hm
  refine k_wide 241 6345 (Nat.le_of_ble_eq_true rfl) (Nat.le_of_ble_eq_true rfl) ?_
  refine k_astore_n [(2, .ref q2), (1, .ref q1), (0, .ref b)] X dL_law_15 (by decide) rfl ?_
  refine k_iconst (v := 1) X dL_law_16 (by decide) ?_
  refine k_newaJ 1 X dL_law_17 mw6 (by decide) (by decide) (by decide) (Nat.le_of_ble_eq_true rfl) (Nat.le_of_ble_eq_true rfl) (fun q3 => ?_)
  refine k_wide 242 6346 (Nat.le_of_ble_eq_true rfl) (Nat.le_of_ble_eq_true rfl) ?_
  refine k_astore_n [(3, .ref q3), (2, .ref q2), (1, .ref q1), (0, .ref b)] X dL_law_19 (by decide) rfl ?_
  refine k_iconst (v := 0) X dL_law_20 (by decide) ?_
  refine k_istore [(4, .int 0), (3, .ref q3), (2, .ref q2), (1, .ref q1), (0, .ref b)] X dL_law_21 (by decide) rfl ?_
  refine k_ws _ (List.append_assoc _ _ _) ?_
  exact kk q1 q2 q3 cf xw mw hx hm2
