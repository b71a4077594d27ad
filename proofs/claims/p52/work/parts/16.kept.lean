theorem pm_iy {ws ws' : va_W} (n : Nat) (is : List Nat) (hn : ws.length = n) (h : is.isPerm (List.range n) = true) (h2 : is.filterMap (fun i => ws[i]?) = ws') : ws.Perm ws' := pm_ix is (by rw [hn]; exact h) h2
theorem slot12 {as : List Nat} {kaf : Nat → Option Nat} {p : Int32} {r : Option Nat} (hA : ∀ i : Nat, i < 12 → kaf i = as[i]?) (hn : as.length = 15) (iv : IV p 0 11) (hr : r = if p < 0 ∨ 12 ≤ p then none else kaf p.toNatClampNeg) : ∃ q, as[p.toNatClampNeg]? = some q ∧ r = some q := by
  have h := iv
  have t := tn_i (z := p) (by omega)
  rw [if_neg (by rw [lt_I, le_I]; have e0 : (0 : Int32).toInt = 0 := (by decide); have e1 : (12 : Int32).toInt = 12 := (by decide); omega), hA _ (by omega)] at hr
  exact ⟨as[p.toNatClampNeg]'(by omega), List.getElem?_eq_getElem (by omega), hr.trans (List.getElem?_eq_getElem (by omega))⟩
theorem slot3 {as : List Nat} {kgf : Nat → Option Nat} {p : Int32} {r : Option Nat} (hA : ∀ i : Nat, i < 3 → kgf i = as[12 + i]?) (hn : as.length = 15) (iv : IV p 0 3) (hr : r = if p < 0 ∨ 3 ≤ p then none else kgf p.toNatClampNeg) : r = none ∨ (p.toInt ≤ 2 ∧ ∃ q, as[12 + p.toNatClampNeg]? = some q ∧ r = some q) := by
  have h := iv
  have t := tn_i (z := p) (by omega)
  by_cases q : p.toInt ≤ 2
  · rw [if_neg (by rw [lt_I, le_I]; have e0 : (0 : Int32).toInt = 0 := (by decide); have e1 : (3 : Int32).toInt = 3 := (by decide); omega), hA _ (by omega)] at hr
    exact Or.inr ⟨q, as[12 + p.toNatClampNeg]'(by omega), List.getElem?_eq_getElem (by omega), hr.trans (List.getElem?_eq_getElem (by omega))⟩
  · rw [if_pos (Or.inr (by rw [le_I]; have e1 : (3 : Int32).toInt = 3 := (by decide); omega))] at hr
    exact Or.inl hr
theorem slot3i {as : List Nat} {kgf : Nat → Option Nat} {p : Int32} {r : Option Nat} (hA : ∀ i : Nat, i < 3 → kgf i = as[12 + i]?) (hn : as.length = 15) (iv : IV p 0 2) (hr : r = if p < 0 ∨ 3 ≤ p then none else kgf p.toNatClampNeg) : ∃ q, as[12 + p.toNatClampNeg]? = some q ∧ r = some q := by
  rcases slot3 hA hn (iv_w iv (by decide) (by decide)) hr with h | h
  · have h1 := iv
    have t := tn_i (z := p) (by omega)
    rw [if_neg (by rw [lt_I, le_I]; have e0 : (0 : Int32).toInt = 0 := (by decide); have e1 : (3 : Int32).toInt = 3 := (by decide); omega), hA _ (by omega)] at hr
    exact ⟨as[12 + p.toNatClampNeg]'(by omega), List.getElem?_eq_getElem (by omega), hr.trans (List.getElem?_eq_getElem (by omega))⟩
  · exact h.2
theorem pm_f {ex c rest pl : va_W} (h : pl.Perm (c ++ rest)) : (ex ++ pl).Perm ((ex ++ c) ++ rest) := by
  rw [List.append_assoc]
  exact List.Perm.append_left ex h
theorem pm_g {ws ex c rest pl : va_W} (h : ws.Perm (ex ++ c)) (h2 : (c ++ rest).Perm pl) : (ws ++ rest).Perm (ex ++ pl) := by
  refine (h.append_right rest).trans ?_
  rw [List.append_assoc]
  exact List.Perm.append_left ex h2
theorem iv_min {x y z : Int32} {a b c d : Int} (e : z = if y < x then y else x) (hx : IV x a b) (hy : IV y c d) {lo hi : Int} (h1 : lo ≤ a ∧ lo ≤ c) (h2 : b ≤ hi ∨ d ≤ hi) : IV z lo hi := by
  have := hx
  have := hy
  rw [e]
  split
  · rename_i h
    rw [lt_I] at h
    exact ⟨by omega, by omega⟩
  · rename_i h
    rw [lt_I] at h
    exact ⟨by omega, by omega⟩
section KSQ
variable {p : Program} {l : Launch} {e : Env} {R : Room} {s : State} {m : MethodId} {args : Array Value} {below : List Frame} {meth : Method} {c : Code} {Q : State → Prop} {A : Nat → Prop} {g : Gx} {cc : ByteArray} {nL n1 n2 pc : Nat} {own : String} {ws : va_W} {lv : List (Nat × Value)} {st : List Value}
theorem k_callSQP {y : MethodName} {b : ByteArray} {nY f lo mc ms i n : Nat} {ret : Option FieldType} {As : List Value} {P : Option Nat → va_W → Prop} (X : Cx p s m meth c args cc nL own A g) (wc wr : va_W) (hpm : ws.Perm (wr ++ wc)) (hM : cQ l g y b nY ret f lo mc ms As wc P) (hd : decode cc pc = .ok (.invokestatic i, 3)) (hm1 : Cond.methodLink own i y ∈ wsL_law0) (hm2 : Cond.static y ∈ wsL_law0) (hm4 : Cond.initialized y.cls ∈ wsL_law0) (hm5 : Cond.code y b nY ret ∈ wsL_law0) (hy : yOk y n) (hnA : As.length = n) (hf : f + 1 ≤ R.frames) (hlo : 8 + (nY + 11) + lo ≤ R.locals) (hst : (st.map fun v => v.category).sum ≤ 8) (h1 : n1 + mc ≤ R.cells) (h2 : n2 + ms ≤ R.slots)
    
    (kk : ∀ (r : Option Nat) (w : va_W), P r w → Wk p l e R s m args below meth c Q A g nL (n1 + mc) (n2 + ms) (wr ++ w) lv (pc + 3) (va_rf r :: st)) : Wk p l e R s m args below meth c Q A g nL n1 n2 ws lv pc (As.reverse ++ st) :=
  k_perm _ hpm (k_callSQ (As := As) (st := st) X wc wr (List.range' wr.length wc.length) (List.range wr.length) hM hd hm1 hm2 hm4 hm5 hy hnA hf hlo hst h1 h2 (fm_map (rg_map2 wr wc)) (rg_map2 wr wc) (nd_of List.nodup_range') (rg_map wr wc) (nd_of List.nodup_range) (fun i h1 h2 => by rw [List.mem_range] at h1; rw [List.mem_range'_1] at h2; omega) kk)
end KSQ
theorem dX4_slot_0 : decode cX4_slot 0 = .ok (.iload_n 1, 1) := dk_27 rfl
theorem dX4_slot_1 : decode cX4_slot 1 = .ok (.ifCond .lt 15, 3) := dk_155 rfl rfl rfl (by decide)
theorem dX4_slot_4 : decode cX4_slot 4 = .ok (.iload_n 1, 1) := dk_27 rfl
theorem dX4_slot_5 : decode cX4_slot 5 = .ok (.aload_n 0, 1) := dk_42 rfl
theorem dX4_slot_6 : decode cX4_slot 6 = .ok (.arraylength, 1) := dk_190 rfl
theorem dX4_slot_7 : decode cX4_slot 7 = .ok (.if_icmp .ge 9, 3) := dk_162 rfl rfl rfl (by decide)
theorem dX4_slot_10 : decode cX4_slot 10 = .ok (.aload_n 0, 1) := dk_42 rfl
theorem dX4_slot_11 : decode cX4_slot 11 = .ok (.iload_n 1, 1) := dk_27 rfl
theorem dX4_slot_12 : decode cX4_slot 12 = .ok (.aaload, 1) := dk_50 rfl
theorem dX4_slot_13 : decode cX4_slot 13 = .ok (.goto 4, 3) := dk_167 rfl rfl rfl (by decide)
theorem dX4_slot_16 : decode cX4_slot 16 = .ok (.aconst_null, 1) := dk_1 rfl
theorem dX4_slot_17 : decode cX4_slot 17 = .ok (.areturn, 1) := dk_176 rfl
set_option maxHeartbeats 4000000 in
theorem g_slot12 (l : Launch) (g : Gx) (sl : Nat) (sf : Nat → Option Nat) (p1 : Int32) : cQ l g yX4_slot cX4_slot 2 (some (.object "ReelChange$State")) 0 0 0 0 [.ref sl, .int p1] [(sl, .inl (g.2.2.2.2.1, 12, .inr (.inr (.inr (.inr sf)))))] (fun r w => (r = if p1 < 0 ∨ 12 ≤ p1 then none else sf p1.toNatClampNeg) ∧ w = [(sl, .inl (g.2.2.2.2.1, 12, .inr (.inr (.inr (.inr sf)))))]) := by
  refine cQ.of (by decide) (Nat.le_of_ble_eq_true rfl) ?_
  intro p e s m args below meth c A X hr hi
  refine k_lveq [(0, .ref sl), (1, .int p1)] rfl ?_
  refine k_iload_n X dX4_slot_0 1 rfl ?_
  refine k_if_lt 16 X dX4_slot_1 (by decide) (fun h => ?_) (fun h => ?_)
  · refine k_null X dX4_slot_16 ?_
    exact k_qret (v := none) X hr (Or.inl ⟨_, rfl⟩) dX4_slot_17 (Nat.le_of_ble_eq_true rfl) (Nat.le_of_ble_eq_true rfl) [0] (by decide) rfl rfl ⟨by rw [if_pos (Or.inl h)], rfl⟩
  · refine k_iload_n X dX4_slot_4 1 rfl ?_
    refine k_aload_n X dX4_slot_5 0 rfl ?_
    refine k_alen 12 3 X dX4_slot_6 0 rfl rfl (by show Int32.ofNat 12 = 12; decide) ?_
    refine k_ic_ge 16 X dX4_slot_7 (by decide) (fun h2 => ?_) (fun h2 => ?_)
    · refine k_null X dX4_slot_16 ?_
      exact k_qret (v := none) X hr (Or.inl ⟨_, rfl⟩) dX4_slot_17 (Nat.le_of_ble_eq_true rfl) (Nat.le_of_ble_eq_true rfl) [0] (by decide) rfl rfl ⟨by rw [if_pos (Or.inr h2)], rfl⟩
    · refine k_aload_n X dX4_slot_10 0 rfl ?_
      refine k_iload_n X dX4_slot_11 1 rfl ?_
      refine k_aldq X dX4_slot_12 0 rfl (by rw [vp_in_iff]; have := iv_nlt h; have := iv_nle h2; have e0 : (0 : Int32).toInt = 0 := (by decide); have e1 : (12 : Int32).toInt = 12 := (by decide); omega) ?_
      refine k_goto 17 X dX4_slot_13 (by decide) ?_
      exact k_qret X hr (Or.inl ⟨_, rfl⟩) dX4_slot_17 (Nat.le_of_ble_eq_true rfl) (Nat.le_of_ble_eq_true rfl) [0] (by decide) rfl rfl ⟨by rw [if_neg (fun q => q.elim h h2)], rfl⟩
set_option maxHeartbeats 4000000 in
theorem g_slot3 (l : Launch) (g : Gx) (sl : Nat) (sf : Nat → Option Nat) (p1 : Int32) : cQ l g yX4_slot cX4_slot 2 (some (.object "ReelChange$State")) 0 0 0 0 [.ref sl, .int p1] [(sl, .inl (g.2.2.2.2.1, 3, .inr (.inr (.inr (.inr sf)))))] (fun r w => (r = if p1 < 0 ∨ 3 ≤ p1 then none else sf p1.toNatClampNeg) ∧ w = [(sl, .inl (g.2.2.2.2.1, 3, .inr (.inr (.inr (.inr sf)))))]) := by
  refine cQ.of (by decide) (Nat.le_of_ble_eq_true rfl) ?_
  intro p e s m args below meth c A X hr hi
  refine k_lveq [(0, .ref sl), (1, .int p1)] rfl ?_
  refine k_iload_n X dX4_slot_0 1 rfl ?_
  refine k_if_lt 16 X dX4_slot_1 (by decide) (fun h => ?_) (fun h => ?_)
  · refine k_null X dX4_slot_16 ?_
    exact k_qret (v := none) X hr (Or.inl ⟨_, rfl⟩) dX4_slot_17 (Nat.le_of_ble_eq_true rfl) (Nat.le_of_ble_eq_true rfl) [0] (by decide) rfl rfl ⟨by rw [if_pos (Or.inl h)], rfl⟩
  · refine k_iload_n X dX4_slot_4 1 rfl ?_
    refine k_aload_n X dX4_slot_5 0 rfl ?_
    refine k_alen 3 3 X dX4_slot_6 0 rfl rfl (by show Int32.ofNat 3 = 3; decide) ?_
    refine k_ic_ge 16 X dX4_slot_7 (by decide) (fun h2 => ?_) (fun h2 => ?_)
    · refine k_null X dX4_slot_16 ?_
      exact k_qret (v := none) X hr (Or.inl ⟨_, rfl⟩) dX4_slot_17 (Nat.le_of_ble_eq_true rfl) (Nat.le_of_ble_eq_true rfl) [0] (by decide) rfl rfl ⟨by rw [if_pos (Or.inr h2)], rfl⟩
    · refine k_aload_n X dX4_slot_10 0 rfl ?_
      refine k_iload_n X dX4_slot_11 1 rfl ?_
      refine k_aldq X dX4_slot_12 0 rfl (by rw [vp_in_iff]; have := iv_nlt h; have := iv_nle h2; have e0 : (0 : Int32).toInt = 0 := (by decide); have e1 : (3 : Int32).toInt = 3 := (by decide); omega) ?_
      refine k_goto 17 X dX4_slot_13 (by decide) ?_
      exact k_qret X hr (Or.inl ⟨_, rfl⟩) dX4_slot_17 (Nat.le_of_ble_eq_true rfl) (Nat.le_of_ble_eq_true rfl) [0] (by decide) rfl rfl ⟨by rw [if_neg (fun q => q.elim h h2)], rfl⟩

theorem dX4_keep_0 : decode cX4_keep 0 = .ok (.aload_n 0, 1) := dk_42 rfl
theorem dX4_keep_1 : decode cX4_keep 1 = .ok (.getfield 13, 3) := dk_180 rfl rfl rfl rfl
theorem dX4_keep_4 : decode cX4_keep 4 = .ok (.aload_n 0, 1) := dk_42 rfl
theorem dX4_keep_5 : decode cX4_keep 5 = .ok (.getfield 24, 3) := dk_180 rfl rfl rfl rfl
theorem dX4_keep_8 : decode cX4_keep 8 = .ok (.invokestatic 31, 3) := dk_184 rfl rfl rfl rfl
theorem dX4_keep_11 : decode cX4_keep 11 = .ok (.astore_n 2, 1) := dk_77 rfl
theorem dX4_keep_12 : decode cX4_keep 12 = .ok (.aload_n 2, 1) := dk_44 rfl
theorem dX4_keep_13 : decode cX4_keep 13 = .ok (.ifnonnull 4, 3) := dk_199 rfl rfl rfl (by decide)
theorem dX4_keep_17 : decode cX4_keep 17 = .ok (.aload_n 2, 1) := dk_44 rfl
theorem dX4_keep_18 : decode cX4_keep 18 = .ok (.aload_n 1, 1) := dk_43 rfl
theorem dX4_keep_19 : decode cX4_keep 19 = .ok (.invokevirtual 35, 3) := dk_182 rfl rfl rfl rfl
theorem dX4_keep_22 : decode cX4_keep 22 = .ok (.aload_n 0, 1) := dk_42 rfl
theorem dX4_keep_23 : decode cX4_keep 23 = .ok (.aload_n 0, 1) := dk_42 rfl
theorem dX4_keep_24 : decode cX4_keep 24 = .ok (.getfield 24, 3) := dk_180 rfl rfl rfl rfl
theorem dX4_keep_27 : decode cX4_keep 27 = .ok (.iconst 1, 1) := dk_4 rfl
theorem dX4_keep_28 : decode cX4_keep 28 = .ok (.iadd, 1) := dk_96 rfl
theorem dX4_keep_29 : decode cX4_keep 29 = .ok (.bipush 12, 2) := dk_16 rfl rfl (by decide)
theorem dX4_keep_31 : decode cX4_keep 31 = .ok (.irem, 1) := dk_112 rfl
theorem dX4_keep_32 : decode cX4_keep 32 = .ok (.putfield 24, 3) := dk_181 rfl rfl rfl rfl
theorem dX4_keep_35 : decode cX4_keep 35 = .ok (.aload_n 0, 1) := dk_42 rfl
theorem dX4_keep_36 : decode cX4_keep 36 = .ok (.aload_n 0, 1) := dk_42 rfl
theorem dX4_keep_37 : decode cX4_keep 37 = .ok (.getfield 20, 3) := dk_180 rfl rfl rfl rfl
theorem dX4_keep_40 : decode cX4_keep 40 = .ok (.iconst 1, 1) := dk_4 rfl
theorem dX4_keep_41 : decode cX4_keep 41 = .ok (.iadd, 1) := dk_96 rfl
theorem dX4_keep_42 : decode cX4_keep 42 = .ok (.bipush 12, 2) := dk_16 rfl rfl (by decide)
theorem dX4_keep_44 : decode cX4_keep 44 = .ok (.invokestatic 39, 3) := dk_184 rfl rfl rfl rfl
theorem dX4_keep_47 : decode cX4_keep 47 = .ok (.putfield 20, 3) := dk_181 rfl rfl rfl rfl
theorem dX4_keep_50 : decode cX4_keep 50 = .ok (.return_, 1) := dk_177 rfl
theorem dX4_takeBack_0 : decode cX4_takeBack 0 = .ok (.aload_n 0, 1) := dk_42 rfl
theorem dX4_takeBack_1 : decode cX4_takeBack 1 = .ok (.getfield 20, 3) := dk_180 rfl rfl rfl rfl
theorem dX4_takeBack_4 : decode cX4_takeBack 4 = .ok (.ifCond .ne 5, 3) := dk_154 rfl rfl rfl (by decide)
theorem dX4_takeBack_7 : decode cX4_takeBack 7 = .ok (.iconst 0, 1) := dk_3 rfl
theorem dX4_takeBack_8 : decode cX4_takeBack 8 = .ok (.ireturn, 1) := dk_172 rfl
theorem dX4_takeBack_9 : decode cX4_takeBack 9 = .ok (.aload_n 0, 1) := dk_42 rfl
theorem dX4_takeBack_10 : decode cX4_takeBack 10 = .ok (.dup, 1) := dk_89 rfl
theorem dX4_takeBack_11 : decode cX4_takeBack 11 = .ok (.getfield 20, 3) := dk_180 rfl rfl rfl rfl
theorem dX4_takeBack_14 : decode cX4_takeBack 14 = .ok (.iconst 1, 1) := dk_4 rfl
theorem dX4_takeBack_15 : decode cX4_takeBack 15 = .ok (.isub, 1) := dk_100 rfl
theorem dX4_takeBack_16 : decode cX4_takeBack 16 = .ok (.putfield 20, 3) := dk_181 rfl rfl rfl rfl
theorem dX4_takeBack_19 : decode cX4_takeBack 19 = .ok (.aload_n 0, 1) := dk_42 rfl
theorem dX4_takeBack_20 : decode cX4_takeBack 20 = .ok (.aload_n 0, 1) := dk_42 rfl
theorem dX4_takeBack_21 : decode cX4_takeBack 21 = .ok (.getfield 24, 3) := dk_180 rfl rfl rfl rfl
theorem dX4_takeBack_24 : decode cX4_takeBack 24 = .ok (.bipush 12, 2) := dk_16 rfl rfl (by decide)
theorem dX4_takeBack_26 : decode cX4_takeBack 26 = .ok (.iadd, 1) := dk_96 rfl
theorem dX4_takeBack_27 : decode cX4_takeBack 27 = .ok (.iconst 1, 1) := dk_4 rfl
theorem dX4_takeBack_28 : decode cX4_takeBack 28 = .ok (.isub, 1) := dk_100 rfl
theorem dX4_takeBack_29 : decode cX4_takeBack 29 = .ok (.bipush 12, 2) := dk_16 rfl rfl (by decide)
theorem dX4_takeBack_31 : decode cX4_takeBack 31 = .ok (.irem, 1) := dk_112 rfl
theorem dX4_takeBack_32 : decode cX4_takeBack 32 = .ok (.putfield 24, 3) := dk_181 rfl rfl rfl rfl
theorem dX4_takeBack_35 : decode cX4_takeBack 35 = .ok (.aload_n 1, 1) := dk_43 rfl
theorem dX4_takeBack_36 : decode cX4_takeBack 36 = .ok (.aload_n 0, 1) := dk_42 rfl
theorem dX4_takeBack_37 : decode cX4_takeBack 37 = .ok (.getfield 13, 3) := dk_180 rfl rfl rfl rfl
theorem dX4_takeBack_40 : decode cX4_takeBack 40 = .ok (.aload_n 0, 1) := dk_42 rfl
theorem dX4_takeBack_41 : decode cX4_takeBack 41 = .ok (.getfield 24, 3) := dk_180 rfl rfl rfl rfl
theorem dX4_takeBack_44 : decode cX4_takeBack 44 = .ok (.invokestatic 31, 3) := dk_184 rfl rfl rfl rfl
theorem dX4_takeBack_47 : decode cX4_takeBack 47 = .ok (.invokevirtual 35, 3) := dk_182 rfl rfl rfl rfl
theorem dX4_takeBack_50 : decode cX4_takeBack 50 = .ok (.iconst 1, 1) := dk_4 rfl
theorem dX4_takeBack_51 : decode cX4_takeBack 51 = .ok (.ireturn, 1) := dk_172 rfl
theorem dX4_takeImage_0 : decode cX4_takeImage 0 = .ok (.aload_n 0, 1) := dk_42 rfl
theorem dX4_takeImage_1 : decode cX4_takeImage 1 = .ok (.getfield 17, 3) := dk_180 rfl rfl rfl rfl
theorem dX4_takeImage_4 : decode cX4_takeImage 4 = .ok (.aload_n 0, 1) := dk_42 rfl
theorem dX4_takeImage_5 : decode cX4_takeImage 5 = .ok (.getfield 27, 3) := dk_180 rfl rfl rfl rfl
theorem dX4_takeImage_8 : decode cX4_takeImage 8 = .ok (.invokestatic 31, 3) := dk_184 rfl rfl rfl rfl
theorem dX4_takeImage_11 : decode cX4_takeImage 11 = .ok (.astore_n 2, 1) := dk_77 rfl
theorem dX4_takeImage_12 : decode cX4_takeImage 12 = .ok (.aload_n 2, 1) := dk_44 rfl
theorem dX4_takeImage_13 : decode cX4_takeImage 13 = .ok (.ifnonnull 5, 3) := dk_199 rfl rfl rfl (by decide)
theorem dX4_takeImage_16 : decode cX4_takeImage 16 = .ok (.iconst (-1), 1) := dk_2 rfl
theorem dX4_takeImage_17 : decode cX4_takeImage 17 = .ok (.ireturn, 1) := dk_172 rfl
theorem dX4_takeImage_18 : decode cX4_takeImage 18 = .ok (.aload_n 2, 1) := dk_44 rfl
theorem dX4_takeImage_19 : decode cX4_takeImage 19 = .ok (.aload_n 1, 1) := dk_43 rfl
theorem dX4_takeImage_20 : decode cX4_takeImage 20 = .ok (.invokevirtual 35, 3) := dk_182 rfl rfl rfl rfl
theorem dX4_takeImage_23 : decode cX4_takeImage 23 = .ok (.aload_n 0, 1) := dk_42 rfl
theorem dX4_takeImage_24 : decode cX4_takeImage 24 = .ok (.dup, 1) := dk_89 rfl
theorem dX4_takeImage_25 : decode cX4_takeImage 25 = .ok (.getfield 27, 3) := dk_180 rfl rfl rfl rfl
theorem dX4_takeImage_28 : decode cX4_takeImage 28 = .ok (.iconst 1, 1) := dk_4 rfl
theorem dX4_takeImage_29 : decode cX4_takeImage 29 = .ok (.iadd, 1) := dk_96 rfl
theorem dX4_takeImage_30 : decode cX4_takeImage 30 = .ok (.putfield 27, 3) := dk_181 rfl rfl rfl rfl
theorem dX4_takeImage_33 : decode cX4_takeImage 33 = .ok (.aload_n 0, 1) := dk_42 rfl
theorem dX4_takeImage_34 : decode cX4_takeImage 34 = .ok (.getfield 27, 3) := dk_180 rfl rfl rfl rfl
theorem dX4_takeImage_37 : decode cX4_takeImage 37 = .ok (.iconst 1, 1) := dk_4 rfl
theorem dX4_takeImage_38 : decode cX4_takeImage 38 = .ok (.isub, 1) := dk_100 rfl
theorem dX4_takeImage_39 : decode cX4_takeImage 39 = .ok (.ireturn, 1) := dk_172 rfl
theorem dX4_goBack_0 : decode cX4_goBack 0 = .ok (.iload_n 1, 1) := dk_27 rfl
theorem dX4_goBack_1 : decode cX4_goBack 1 = .ok (.ifCond .lt 11, 3) := dk_155 rfl rfl rfl (by decide)
theorem dX4_goBack_4 : decode cX4_goBack 4 = .ok (.iload_n 1, 1) := dk_27 rfl
theorem dX4_goBack_5 : decode cX4_goBack 5 = .ok (.aload_n 0, 1) := dk_42 rfl
theorem dX4_goBack_6 : decode cX4_goBack 6 = .ok (.getfield 27, 3) := dk_180 rfl rfl rfl rfl
theorem dX4_goBack_9 : decode cX4_goBack 9 = .ok (.if_icmp .lt 5, 3) := dk_161 rfl rfl rfl (by decide)
theorem dX4_goBack_12 : decode cX4_goBack 12 = .ok (.iconst 0, 1) := dk_3 rfl
theorem dX4_goBack_13 : decode cX4_goBack 13 = .ok (.ireturn, 1) := dk_172 rfl
theorem dX4_goBack_14 : decode cX4_goBack 14 = .ok (.aload_n 2, 1) := dk_44 rfl
theorem dX4_goBack_15 : decode cX4_goBack 15 = .ok (.aload_n 0, 1) := dk_42 rfl
theorem dX4_goBack_16 : decode cX4_goBack 16 = .ok (.getfield 17, 3) := dk_180 rfl rfl rfl rfl
theorem dX4_goBack_19 : decode cX4_goBack 19 = .ok (.iload_n 1, 1) := dk_27 rfl
theorem dX4_goBack_20 : decode cX4_goBack 20 = .ok (.invokestatic 31, 3) := dk_184 rfl rfl rfl rfl
theorem dX4_goBack_23 : decode cX4_goBack 23 = .ok (.invokevirtual 35, 3) := dk_182 rfl rfl rfl rfl
theorem dX4_goBack_26 : decode cX4_goBack 26 = .ok (.aload_n 0, 1) := dk_42 rfl
theorem dX4_goBack_27 : decode cX4_goBack 27 = .ok (.iconst 0, 1) := dk_3 rfl
theorem dX4_goBack_28 : decode cX4_goBack 28 = .ok (.putfield 20, 3) := dk_181 rfl rfl rfl rfl
theorem dX4_goBack_31 : decode cX4_goBack 31 = .ok (.iconst 1, 1) := dk_4 rfl
theorem dX4_goBack_32 : decode cX4_goBack 32 = .ok (.ireturn, 1) := dk_172 rfl
theorem dX10_threads_0 : decode cX10_threads 0 = .ok (.aload_n 0, 1) := dk_42 rfl
theorem dX10_threads_1 : decode cX10_threads 1 = .ok (.getfield 26, 3) := dk_180 rfl rfl rfl rfl
theorem dX10_threads_4 : decode cX10_threads 4 = .ok (.getfield 109, 3) := dk_180 rfl rfl rfl rfl
theorem dX10_threads_7 : decode cX10_threads 7 = .ok (.iload_n 1, 1) := dk_27 rfl
theorem dX10_threads_8 : decode cX10_threads 8 = .ok (.invokevirtual 127, 3) := dk_182 rfl rfl rfl rfl
theorem dX10_threads_11 : decode cX10_threads 11 = .ok (.ifCond .ne 9, 3) := dk_154 rfl rfl rfl (by decide)
theorem dX10_threads_14 : decode cX10_threads 14 = .ok (.aload_n 0, 1) := dk_42 rfl
theorem dX10_threads_15 : decode cX10_threads 15 = .ok (.iconst 1, 1) := dk_4 rfl
theorem dX10_threads_16 : decode cX10_threads 16 = .ok (.invokevirtual 337, 3) := dk_182 rfl rfl rfl rfl
theorem dX10_threads_19 : decode cX10_threads 19 = .ok (.ireturn, 1) := dk_172 rfl
theorem dX10_threads_20 : decode cX10_threads 20 = .ok (.iload_n 2, 1) := dk_28 rfl
theorem dX10_threads_21 : decode cX10_threads 21 = .ok (.ifCond .lt 10, 3) := dk_155 rfl rfl rfl (by decide)
theorem dX10_threads_24 : decode cX10_threads 24 = .ok (.iload_n 2, 1) := dk_28 rfl
theorem dX10_threads_25 : decode cX10_threads 25 = .ok (.sipush 199, 3) := dk_17 rfl rfl rfl (by decide)
theorem dX10_threads_28 : decode cX10_threads 28 = .ok (.if_icmp .le 9, 3) := dk_164 rfl rfl rfl (by decide)
theorem dX10_threads_31 : decode cX10_threads 31 = .ok (.aload_n 0, 1) := dk_42 rfl
theorem dX10_threads_32 : decode cX10_threads 32 = .ok (.iconst 2, 1) := dk_5 rfl
theorem dX10_threads_33 : decode cX10_threads 33 = .ok (.invokevirtual 337, 3) := dk_182 rfl rfl rfl rfl
theorem dX10_threads_36 : decode cX10_threads 36 = .ok (.ireturn, 1) := dk_172 rfl
theorem dX10_threads_37 : decode cX10_threads 37 = .ok (.aload_n 0, 1) := dk_42 rfl
theorem dX10_threads_38 : decode cX10_threads 38 = .ok (.getfield 26, 3) := dk_180 rfl rfl rfl rfl
theorem dX10_threads_41 : decode cX10_threads 41 = .ok (.getfield 109, 3) := dk_180 rfl rfl rfl rfl
theorem dX10_threads_44 : decode cX10_threads 44 = .ok (.iload_n 1, 1) := dk_27 rfl
theorem dX10_threads_45 : decode cX10_threads 45 = .ok (.iconst 1, 1) := dk_4 rfl
theorem dX10_threads_46 : decode cX10_threads 46 = .ok (.invokevirtual 147, 3) := dk_182 rfl rfl rfl rfl
theorem dX10_threads_49 : decode cX10_threads 49 = .ok (.iload_n 2, 1) := dk_28 rfl
theorem dX10_threads_50 : decode cX10_threads 50 = .ok (.if_icmp .ne 9, 3) := dk_160 rfl rfl rfl (by decide)
theorem dX10_threads_53 : decode cX10_threads 53 = .ok (.aload_n 0, 1) := dk_42 rfl
theorem dX10_threads_54 : decode cX10_threads 54 = .ok (.iconst 5, 1) := dk_8 rfl
theorem dX10_threads_55 : decode cX10_threads 55 = .ok (.invokevirtual 337, 3) := dk_182 rfl rfl rfl rfl
theorem dX10_threads_58 : decode cX10_threads 58 = .ok (.ireturn, 1) := dk_172 rfl
theorem dX10_threads_59 : decode cX10_threads 59 = .ok (.aload_n 0, 1) := dk_42 rfl
theorem dX10_threads_60 : decode cX10_threads 60 = .ok (.getfield 33, 3) := dk_180 rfl rfl rfl rfl
theorem dX10_threads_63 : decode cX10_threads 63 = .ok (.aload_n 0, 1) := dk_42 rfl
theorem dX10_threads_64 : decode cX10_threads 64 = .ok (.getfield 26, 3) := dk_180 rfl rfl rfl rfl
theorem dX10_threads_67 : decode cX10_threads 67 = .ok (.invokevirtual 340, 3) := dk_182 rfl rfl rfl rfl
theorem dX10_threads_70 : decode cX10_threads 70 = .ok (.aload_n 0, 1) := dk_42 rfl
theorem dX10_threads_71 : decode cX10_threads 71 = .ok (.getfield 26, 3) := dk_180 rfl rfl rfl rfl
theorem dX10_threads_74 : decode cX10_threads 74 = .ok (.getfield 109, 3) := dk_180 rfl rfl rfl rfl
theorem dX10_threads_77 : decode cX10_threads 77 = .ok (.iload_n 1, 1) := dk_27 rfl
theorem dX10_threads_78 : decode cX10_threads 78 = .ok (.iconst 1, 1) := dk_4 rfl
theorem dX10_threads_79 : decode cX10_threads 79 = .ok (.iload_n 2, 1) := dk_28 rfl
theorem dX10_threads_80 : decode cX10_threads 80 = .ok (.invokevirtual 343, 3) := dk_182 rfl rfl rfl rfl
theorem dX10_threads_83 : decode cX10_threads 83 = .ok (.aload_n 0, 1) := dk_42 rfl
theorem dX10_threads_84 : decode cX10_threads 84 = .ok (.invokevirtual 346, 3) := dk_182 rfl rfl rfl rfl
theorem dX10_threads_87 : decode cX10_threads 87 = .ok (.ireturn, 1) := dk_172 rfl
theorem dX10_trim_0 : decode cX10_trim 0 = .ok (.aload_n 0, 1) := dk_42 rfl
theorem dX10_trim_1 : decode cX10_trim 1 = .ok (.getfield 26, 3) := dk_180 rfl rfl rfl rfl
theorem dX10_trim_4 : decode cX10_trim 4 = .ok (.getfield 109, 3) := dk_180 rfl rfl rfl rfl
theorem dX10_trim_7 : decode cX10_trim 7 = .ok (.iload_n 1, 1) := dk_27 rfl
theorem dX10_trim_8 : decode cX10_trim 8 = .ok (.invokevirtual 127, 3) := dk_182 rfl rfl rfl rfl
theorem dX10_trim_11 : decode cX10_trim 11 = .ok (.ifCond .ne 9, 3) := dk_154 rfl rfl rfl (by decide)
theorem dX10_trim_14 : decode cX10_trim 14 = .ok (.aload_n 0, 1) := dk_42 rfl
theorem dX10_trim_15 : decode cX10_trim 15 = .ok (.iconst 1, 1) := dk_4 rfl
theorem dX10_trim_16 : decode cX10_trim 16 = .ok (.invokevirtual 337, 3) := dk_182 rfl rfl rfl rfl
theorem dX10_trim_19 : decode cX10_trim 19 = .ok (.ireturn, 1) := dk_172 rfl
theorem dX10_trim_20 : decode cX10_trim 20 = .ok (.aload_n 0, 1) := dk_42 rfl
theorem dX10_trim_21 : decode cX10_trim 21 = .ok (.getfield 26, 3) := dk_180 rfl rfl rfl rfl
theorem dX10_trim_24 : decode cX10_trim 24 = .ok (.getfield 210, 3) := dk_180 rfl rfl rfl rfl
theorem dX10_trim_27 : decode cX10_trim 27 = .ok (.iload_n 1, 1) := dk_27 rfl
theorem dX10_trim_28 : decode cX10_trim 28 = .ok (.ishr, 1) := dk_122 rfl
theorem dX10_trim_29 : decode cX10_trim 29 = .ok (.iconst 1, 1) := dk_4 rfl
theorem dX10_trim_30 : decode cX10_trim 30 = .ok (.iand, 1) := dk_126 rfl
theorem dX10_trim_31 : decode cX10_trim 31 = .ok (.iload_n 2, 1) := dk_28 rfl
theorem dX10_trim_32 : decode cX10_trim 32 = .ok (.ifCond .eq 7, 3) := dk_153 rfl rfl rfl (by decide)
theorem dX10_trim_35 : decode cX10_trim 35 = .ok (.iconst 1, 1) := dk_4 rfl
theorem dX10_trim_36 : decode cX10_trim 36 = .ok (.goto 4, 3) := dk_167 rfl rfl rfl (by decide)
theorem dX10_trim_39 : decode cX10_trim 39 = .ok (.iconst 0, 1) := dk_3 rfl
theorem dX10_trim_40 : decode cX10_trim 40 = .ok (.if_icmp .ne 9, 3) := dk_160 rfl rfl rfl (by decide)
theorem dX10_trim_43 : decode cX10_trim 43 = .ok (.aload_n 0, 1) := dk_42 rfl
theorem dX10_trim_44 : decode cX10_trim 44 = .ok (.iconst 5, 1) := dk_8 rfl
theorem dX10_trim_45 : decode cX10_trim 45 = .ok (.invokevirtual 337, 3) := dk_182 rfl rfl rfl rfl
theorem dX10_trim_48 : decode cX10_trim 48 = .ok (.ireturn, 1) := dk_172 rfl
theorem dX10_trim_49 : decode cX10_trim 49 = .ok (.aload_n 0, 1) := dk_42 rfl
theorem dX10_trim_50 : decode cX10_trim 50 = .ok (.getfield 33, 3) := dk_180 rfl rfl rfl rfl
theorem dX10_trim_53 : decode cX10_trim 53 = .ok (.aload_n 0, 1) := dk_42 rfl
theorem dX10_trim_54 : decode cX10_trim 54 = .ok (.getfield 26, 3) := dk_180 rfl rfl rfl rfl
theorem dX10_trim_57 : decode cX10_trim 57 = .ok (.invokevirtual 340, 3) := dk_182 rfl rfl rfl rfl
theorem dX10_trim_60 : decode cX10_trim 60 = .ok (.aload_n 0, 1) := dk_42 rfl
theorem dX10_trim_61 : decode cX10_trim 61 = .ok (.getfield 26, 3) := dk_180 rfl rfl rfl rfl
theorem dX10_trim_64 : decode cX10_trim 64 = .ok (.dup, 1) := dk_89 rfl
theorem dX10_trim_65 : decode cX10_trim 65 = .ok (.getfield 210, 3) := dk_180 rfl rfl rfl rfl
theorem dX10_trim_68 : decode cX10_trim 68 = .ok (.iconst 1, 1) := dk_4 rfl
theorem dX10_trim_69 : decode cX10_trim 69 = .ok (.iload_n 1, 1) := dk_27 rfl
theorem dX10_trim_70 : decode cX10_trim 70 = .ok (.ishl, 1) := dk_120 rfl
theorem dX10_trim_71 : decode cX10_trim 71 = .ok (.ixor, 1) := dk_130 rfl
theorem dX10_trim_72 : decode cX10_trim 72 = .ok (.putfield 210, 3) := dk_181 rfl rfl rfl rfl
theorem dX10_trim_75 : decode cX10_trim 75 = .ok (.aload_n 0, 1) := dk_42 rfl
theorem dX10_trim_76 : decode cX10_trim 76 = .ok (.invokevirtual 346, 3) := dk_182 rfl rfl rfl rfl
theorem dX10_trim_79 : decode cX10_trim 79 = .ok (.ireturn, 1) := dk_172 rfl
theorem dX10_mend_0 : decode cX10_mend 0 = .ok (.aload_n 0, 1) := dk_42 rfl
theorem dX10_mend_1 : decode cX10_mend 1 = .ok (.getfield 26, 3) := dk_180 rfl rfl rfl rfl
theorem dX10_mend_4 : decode cX10_mend 4 = .ok (.getfield 144, 3) := dk_180 rfl rfl rfl rfl
theorem dX10_mend_7 : decode cX10_mend 7 = .ok (.iload_n 1, 1) := dk_27 rfl
theorem dX10_mend_8 : decode cX10_mend 8 = .ok (.invokevirtual 127, 3) := dk_182 rfl rfl rfl rfl
theorem dX10_mend_11 : decode cX10_mend 11 = .ok (.ifCond .ne 9, 3) := dk_154 rfl rfl rfl (by decide)
theorem dX10_mend_14 : decode cX10_mend 14 = .ok (.aload_n 0, 1) := dk_42 rfl
theorem dX10_mend_15 : decode cX10_mend 15 = .ok (.iconst 1, 1) := dk_4 rfl
theorem dX10_mend_16 : decode cX10_mend 16 = .ok (.invokevirtual 83, 3) := dk_182 rfl rfl rfl rfl
theorem dX10_mend_19 : decode cX10_mend 19 = .ok (.ireturn, 1) := dk_172 rfl
theorem dX10_mend_20 : decode cX10_mend 20 = .ok (.aload_n 0, 1) := dk_42 rfl
theorem dX10_mend_21 : decode cX10_mend 21 = .ok (.getfield 26, 3) := dk_180 rfl rfl rfl rfl
theorem dX10_mend_24 : decode cX10_mend 24 = .ok (.getfield 144, 3) := dk_180 rfl rfl rfl rfl
theorem dX10_mend_27 : decode cX10_mend 27 = .ok (.iload_n 1, 1) := dk_27 rfl
theorem dX10_mend_28 : decode cX10_mend 28 = .ok (.iconst 0, 1) := dk_3 rfl
theorem dX10_mend_29 : decode cX10_mend 29 = .ok (.invokevirtual 147, 3) := dk_182 rfl rfl rfl rfl
theorem dX10_mend_32 : decode cX10_mend 32 = .ok (.istore_n 2, 1) := dk_61 rfl
theorem dX10_mend_33 : decode cX10_mend 33 = .ok (.aload_n 0, 1) := dk_42 rfl
theorem dX10_mend_34 : decode cX10_mend 34 = .ok (.getfield 26, 3) := dk_180 rfl rfl rfl rfl
theorem dX10_mend_37 : decode cX10_mend 37 = .ok (.iload_n 1, 1) := dk_27 rfl
theorem dX10_mend_38 : decode cX10_mend 38 = .ok (.invokevirtual 273, 3) := dk_182 rfl rfl rfl rfl
theorem dX10_mend_41 : decode cX10_mend 41 = .ok (.ifCond .eq 20, 3) := dk_153 rfl rfl rfl (by decide)
theorem dX10_mend_44 : decode cX10_mend 44 = .ok (.aload_n 0, 1) := dk_42 rfl
theorem dX10_mend_45 : decode cX10_mend 45 = .ok (.getfield 26, 3) := dk_180 rfl rfl rfl rfl
theorem dX10_mend_48 : decode cX10_mend 48 = .ok (.getfield 124, 3) := dk_180 rfl rfl rfl rfl
theorem dX10_mend_51 : decode cX10_mend 51 = .ok (.iload_n 2, 1) := dk_28 rfl
theorem dX10_mend_52 : decode cX10_mend 52 = .ok (.iconst 0, 1) := dk_3 rfl
theorem dX10_mend_53 : decode cX10_mend 53 = .ok (.invokevirtual 147, 3) := dk_182 rfl rfl rfl rfl
theorem dX10_mend_56 : decode cX10_mend 56 = .ok (.bipush 6, 2) := dk_16 rfl rfl (by decide)
theorem dX10_mend_58 : decode cX10_mend 58 = .ok (.if_icmp .ge 9, 3) := dk_162 rfl rfl rfl (by decide)
theorem dX10_mend_61 : decode cX10_mend 61 = .ok (.aload_n 0, 1) := dk_42 rfl
theorem dX10_mend_62 : decode cX10_mend 62 = .ok (.iconst 5, 1) := dk_8 rfl
theorem dX10_mend_63 : decode cX10_mend 63 = .ok (.invokevirtual 83, 3) := dk_182 rfl rfl rfl rfl
theorem dX10_mend_66 : decode cX10_mend 66 = .ok (.ireturn, 1) := dk_172 rfl
theorem dX10_mend_67 : decode cX10_mend 67 = .ok (.aload_n 0, 1) := dk_42 rfl
theorem dX10_mend_68 : decode cX10_mend 68 = .ok (.getfield 33, 3) := dk_180 rfl rfl rfl rfl
theorem dX10_mend_71 : decode cX10_mend 71 = .ok (.aload_n 0, 1) := dk_42 rfl
theorem dX10_mend_72 : decode cX10_mend 72 = .ok (.getfield 26, 3) := dk_180 rfl rfl rfl rfl
theorem dX10_mend_75 : decode cX10_mend 75 = .ok (.invokevirtual 340, 3) := dk_182 rfl rfl rfl rfl
theorem dX10_mend_78 : decode cX10_mend 78 = .ok (.aload_n 0, 1) := dk_42 rfl
theorem dX10_mend_79 : decode cX10_mend 79 = .ok (.getfield 26, 3) := dk_180 rfl rfl rfl rfl
theorem dX10_mend_82 : decode cX10_mend 82 = .ok (.iload_n 1, 1) := dk_27 rfl
theorem dX10_mend_83 : decode cX10_mend 83 = .ok (.invokevirtual 349, 3) := dk_182 rfl rfl rfl rfl
theorem dX10_mend_86 : decode cX10_mend 86 = .ok (.aload_n 0, 1) := dk_42 rfl
theorem dX10_mend_87 : decode cX10_mend 87 = .ok (.aload_n 0, 1) := dk_42 rfl
theorem dX10_mend_88 : decode cX10_mend 88 = .ok (.getfield 26, 3) := dk_180 rfl rfl rfl rfl
theorem dX10_mend_91 : decode cX10_mend 91 = .ok (.getfield 124, 3) := dk_180 rfl rfl rfl rfl
theorem dX10_mend_94 : decode cX10_mend 94 = .ok (.iload_n 2, 1) := dk_28 rfl
theorem dX10_mend_95 : decode cX10_mend 95 = .ok (.iconst 0, 1) := dk_3 rfl
theorem dX10_mend_96 : decode cX10_mend 96 = .ok (.invokevirtual 147, 3) := dk_182 rfl rfl rfl rfl
theorem dX10_mend_99 : decode cX10_mend 99 = .ok (.invokevirtual 118, 3) := by decide +kernel
theorem dX10_mend_102 : decode cX10_mend 102 = .ok (.ireturn, 1) := by decide +kernel
theorem dX10_undo_0 : decode cX10_undo 0 = .ok (.aload_n 0, 1) := dk_42 rfl
theorem dX10_undo_1 : decode cX10_undo 1 = .ok (.getfield 33, 3) := dk_180 rfl rfl rfl rfl
theorem dX10_undo_4 : decode cX10_undo 4 = .ok (.aload_n 0, 1) := dk_42 rfl
theorem dX10_undo_5 : decode cX10_undo 5 = .ok (.getfield 26, 3) := dk_180 rfl rfl rfl rfl
theorem dX10_undo_8 : decode cX10_undo 8 = .ok (.invokevirtual 352, 3) := dk_182 rfl rfl rfl rfl
theorem dX10_undo_11 : decode cX10_undo 11 = .ok (.ifCond .ne 10, 3) := dk_154 rfl rfl rfl (by decide)
theorem dX10_undo_14 : decode cX10_undo 14 = .ok (.aload_n 0, 1) := dk_42 rfl
theorem dX10_undo_15 : decode cX10_undo 15 = .ok (.bipush 6, 2) := dk_16 rfl rfl (by decide)
theorem dX10_undo_17 : decode cX10_undo 17 = .ok (.invokevirtual 337, 3) := dk_182 rfl rfl rfl rfl
theorem dX10_undo_20 : decode cX10_undo 20 = .ok (.ireturn, 1) := dk_172 rfl
theorem dX10_undo_21 : decode cX10_undo 21 = .ok (.aload_n 0, 1) := dk_42 rfl
theorem dX10_undo_22 : decode cX10_undo 22 = .ok (.invokevirtual 346, 3) := dk_182 rfl rfl rfl rfl
theorem dX10_undo_25 : decode cX10_undo 25 = .ok (.ireturn, 1) := dk_172 rfl
theorem dX10_image_0 : decode cX10_image 0 = .ok (.aload_n 0, 1) := dk_42 rfl
theorem dX10_image_1 : decode cX10_image 1 = .ok (.invokevirtual 184, 3) := dk_182 rfl rfl rfl rfl
theorem dX10_image_4 : decode cX10_image 4 = .ok (.ifCond .ne 9, 3) := dk_154 rfl rfl rfl (by decide)
theorem dX10_image_7 : decode cX10_image 7 = .ok (.aload_n 0, 1) := dk_42 rfl
theorem dX10_image_8 : decode cX10_image 8 = .ok (.iconst 1, 1) := dk_4 rfl
theorem dX10_image_9 : decode cX10_image 9 = .ok (.invokevirtual 83, 3) := dk_182 rfl rfl rfl rfl
theorem dX10_image_12 : decode cX10_image 12 = .ok (.ireturn, 1) := dk_172 rfl
theorem dX10_image_13 : decode cX10_image 13 = .ok (.aload_n 0, 1) := dk_42 rfl
theorem dX10_image_14 : decode cX10_image 14 = .ok (.getfield 33, 3) := dk_180 rfl rfl rfl rfl
theorem dX10_image_17 : decode cX10_image 17 = .ok (.aload_n 0, 1) := dk_42 rfl
theorem dX10_image_18 : decode cX10_image 18 = .ok (.getfield 26, 3) := dk_180 rfl rfl rfl rfl
theorem dX10_image_21 : decode cX10_image 21 = .ok (.invokevirtual 356, 3) := dk_182 rfl rfl rfl rfl
theorem dX10_image_24 : decode cX10_image 24 = .ok (.istore_n 1, 1) := dk_60 rfl
theorem dX10_image_25 : decode cX10_image 25 = .ok (.iload_n 1, 1) := dk_27 rfl
theorem dX10_image_26 : decode cX10_image 26 = .ok (.ifCond .ge 11, 3) := dk_156 rfl rfl rfl (by decide)
theorem dX10_image_29 : decode cX10_image 29 = .ok (.aload_n 0, 1) := dk_42 rfl
theorem dX10_image_30 : decode cX10_image 30 = .ok (.iconst 3, 1) := dk_6 rfl
theorem dX10_image_31 : decode cX10_image 31 = .ok (.invokevirtual 83, 3) := dk_182 rfl rfl rfl rfl
theorem dX10_image_34 : decode cX10_image 34 = .ok (.goto 8, 3) := dk_167 rfl rfl rfl (by decide)
theorem dX10_image_37 : decode cX10_image 37 = .ok (.aload_n 0, 1) := dk_42 rfl
theorem dX10_image_38 : decode cX10_image 38 = .ok (.iload_n 1, 1) := dk_27 rfl
theorem dX10_image_39 : decode cX10_image 39 = .ok (.invokevirtual 118, 3) := dk_182 rfl rfl rfl rfl
theorem dX10_image_42 : decode cX10_image 42 = .ok (.ireturn, 1) := dk_172 rfl
theorem dX10_back_0 : decode cX10_back 0 = .ok (.aload_n 0, 1) := dk_42 rfl
theorem dX10_back_1 : decode cX10_back 1 = .ok (.getfield 33, 3) := dk_180 rfl rfl rfl rfl
theorem dX10_back_4 : decode cX10_back 4 = .ok (.iload_n 1, 1) := dk_27 rfl
theorem dX10_back_5 : decode cX10_back 5 = .ok (.aload_n 0, 1) := dk_42 rfl
theorem dX10_back_6 : decode cX10_back 6 = .ok (.getfield 26, 3) := dk_180 rfl rfl rfl rfl
theorem dX10_back_9 : decode cX10_back 9 = .ok (.invokevirtual 359, 3) := dk_182 rfl rfl rfl rfl
theorem dX10_back_12 : decode cX10_back 12 = .ok (.ifCond .ne 9, 3) := dk_154 rfl rfl rfl (by decide)
theorem dX10_back_15 : decode cX10_back 15 = .ok (.aload_n 0, 1) := dk_42 rfl
theorem dX10_back_16 : decode cX10_back 16 = .ok (.iconst 1, 1) := dk_4 rfl
theorem dX10_back_17 : decode cX10_back 17 = .ok (.invokevirtual 337, 3) := dk_182 rfl rfl rfl rfl
theorem dX10_back_20 : decode cX10_back 20 = .ok (.ireturn, 1) := dk_172 rfl
theorem dX10_back_21 : decode cX10_back 21 = .ok (.aload_n 0, 1) := dk_42 rfl
theorem dX10_back_22 : decode cX10_back 22 = .ok (.invokevirtual 346, 3) := dk_182 rfl rfl rfl rfl
theorem dX10_back_25 : decode cX10_back 25 = .ok (.ireturn, 1) := dk_172 rfl
