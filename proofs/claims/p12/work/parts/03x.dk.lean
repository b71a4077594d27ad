set_option maxRecDepth 100000
set_option maxHeartbeats 4000000
/-! decoding by bytes -/
theorem rd_bind {α β : Type} {r : Jvm.ClassFile.Decoder α} {f : α → Jvm.ClassFile.Decoder β} {A : ByteArray} {p s : Nat} {a : α} (h : r A p = .ok (a, s)) : (r >>= f) A p = f a A s := by
  have e : (r >>= f) A p = (match r A p with | .error e => Except.error e | .ok (a, s) => f a A s) := by
    show (do let (a, s) ← r A p; f a A s : Except Jvm.ClassFile.DecodeError (β × Nat)) = _
    cases r A p <;> rfl
  rw [e, h]
theorem rd_map {α β : Type} {r : Jvm.ClassFile.Decoder α} (g : α → β) {A : ByteArray} {p s : Nat} {a : α} (h : r A p = .ok (a, s)) : (g <$> r) A p = .ok (g a, s) := by
  have e : (g <$> r) A p = (match r A p with | .error e => Except.error e | .ok (a, s) => .ok (g a, s)) := by
    show (do let (a, s) ← r A p; .ok (g a, s) : Except Jvm.ClassFile.DecodeError (β × Nat)) = _
    cases r A p <;> rfl
  rw [e, h]
theorem by_at {code : ByteArray} {pc : Nat} {b : UInt8} (h : code.data.toList[pc]? = some b) : ∃ hl : pc < code.size, code[pc] = b := by
  obtain ⟨hl, e⟩ := List.getElem?_eq_some_iff.mp h
  exact ⟨hl, e⟩
theorem u1_at {code : ByteArray} {pc n : Nat} {b : UInt8} (h : code.data.toList[pc]? = some b) (hn : b.toNat = n) : (Jvm.ClassFile.Reader.u1 : Jvm.ClassFile.Decoder Nat) code pc = .ok (n, pc + 1) := by
  obtain ⟨hl, e⟩ := by_at h
  subst hn
  have e2 : (Jvm.ClassFile.Reader.u1 : Jvm.ClassFile.Decoder Nat) code pc = (if h : pc < code.size then .ok (code[pc].toNat, pc + 1) else .error (Jvm.ClassFile.HasTruncated.truncated pc)) := by
    show (do if h : pc < code.size then do set (pc + 1); Pure.pure code[pc].toNat else MonadExcept.throw (Jvm.ClassFile.HasTruncated.truncated pc) : Jvm.ClassFile.Decoder Nat) code pc = _
    by_cases hi : pc < code.size
    · rw [dif_pos hi, dif_pos hi]; rfl
    · rw [dif_neg hi, dif_neg hi]; rfl
  rw [e2, dif_pos hl, e]
theorem u2_at {code : ByteArray} {pc n m : Nat} {b c : UInt8} (h : code.data.toList[pc]? = some b) (h2 : code.data.toList[pc + 1]? = some c) (hn : b.toNat * 256 + c.toNat = n) : (Jvm.ClassFile.Reader.u2 : Jvm.ClassFile.Decoder Nat) code pc = .ok (n, pc + 2) := by
  subst hn
  unfold Jvm.ClassFile.Reader.u2
  rw [rd_bind (u1_at h rfl), rd_bind (u1_at h2 rfl)]
  rfl
theorem dec_of {code : ByteArray} {pc k : Nat} {i : Jvm.ClassFile.Instr} (h : (Jvm.ClassFile.Decoder.instr pc) code pc = .ok (i, pc + k)) : decode code pc = .ok (i, k) := by
  have h2 : (Jvm.ClassFile.Decoder.instr pc).runAt code pc = .ok (i, pc + k) := h
  unfold Jvm.ClassFile.decode
  rw [h2]
  show Except.ok (i, pc + k - pc) = _
  rw [Nat.add_sub_cancel_left]
theorem dk_42 {code : ByteArray} {pc : Nat} (h : code.data.toList[pc]? = some 42) : decode code pc = .ok (.aload_n 0, 1) := by
  refine dec_of (k := 1) ?_
  unfold Jvm.ClassFile.Decoder.instr
  rw [rd_bind (u1_at (n := 42) h rfl)]
  rfl
theorem dk_43 {code : ByteArray} {pc : Nat} (h : code.data.toList[pc]? = some 43) : decode code pc = .ok (.aload_n 1, 1) := by
  refine dec_of (k := 1) ?_
  unfold Jvm.ClassFile.Decoder.instr
  rw [rd_bind (u1_at (n := 43) h rfl)]
  rfl
theorem dk_44 {code : ByteArray} {pc : Nat} (h : code.data.toList[pc]? = some 44) : decode code pc = .ok (.aload_n 2, 1) := by
  refine dec_of (k := 1) ?_
  unfold Jvm.ClassFile.Decoder.instr
  rw [rd_bind (u1_at (n := 44) h rfl)]
  rfl
theorem dk_45 {code : ByteArray} {pc : Nat} (h : code.data.toList[pc]? = some 45) : decode code pc = .ok (.aload_n 3, 1) := by
  refine dec_of (k := 1) ?_
  unfold Jvm.ClassFile.Decoder.instr
  rw [rd_bind (u1_at (n := 45) h rfl)]
  rfl
theorem dk_46 {code : ByteArray} {pc : Nat} (h : code.data.toList[pc]? = some 46) : decode code pc = .ok (.iaload, 1) := by
  refine dec_of (k := 1) ?_
  unfold Jvm.ClassFile.Decoder.instr
  rw [rd_bind (u1_at (n := 46) h rfl)]
  rfl
theorem dk_96 {code : ByteArray} {pc : Nat} (h : code.data.toList[pc]? = some 96) : decode code pc = .ok (.iadd, 1) := by
  refine dec_of (k := 1) ?_
  unfold Jvm.ClassFile.Decoder.instr
  rw [rd_bind (u1_at (n := 96) h rfl)]
  rfl
theorem dk_87 {code : ByteArray} {pc : Nat} (h : code.data.toList[pc]? = some 87) : decode code pc = .ok (.pop, 1) := by
  refine dec_of (k := 1) ?_
  unfold Jvm.ClassFile.Decoder.instr
  rw [rd_bind (u1_at (n := 87) h rfl)]
  rfl
theorem dk_88 {code : ByteArray} {pc : Nat} (h : code.data.toList[pc]? = some 88) : decode code pc = .ok (.pop2, 1) := by
  refine dec_of (k := 1) ?_
  unfold Jvm.ClassFile.Decoder.instr
  rw [rd_bind (u1_at (n := 88) h rfl)]
  rfl
theorem dk_3 {code : ByteArray} {pc : Nat} (h : code.data.toList[pc]? = some 3) : decode code pc = .ok (.iconst 0, 1) := by
  refine dec_of (k := 1) ?_
  unfold Jvm.ClassFile.Decoder.instr
  rw [rd_bind (u1_at (n := 3) h rfl)]
  rfl
theorem dk_4 {code : ByteArray} {pc : Nat} (h : code.data.toList[pc]? = some 4) : decode code pc = .ok (.iconst 1, 1) := by
  refine dec_of (k := 1) ?_
  unfold Jvm.ClassFile.Decoder.instr
  rw [rd_bind (u1_at (n := 4) h rfl)]
  rfl
theorem dk_5 {code : ByteArray} {pc : Nat} (h : code.data.toList[pc]? = some 5) : decode code pc = .ok (.iconst 2, 1) := by
  refine dec_of (k := 1) ?_
  unfold Jvm.ClassFile.Decoder.instr
  rw [rd_bind (u1_at (n := 5) h rfl)]
  rfl
theorem dk_6 {code : ByteArray} {pc : Nat} (h : code.data.toList[pc]? = some 6) : decode code pc = .ok (.iconst 3, 1) := by
  refine dec_of (k := 1) ?_
  unfold Jvm.ClassFile.Decoder.instr
  rw [rd_bind (u1_at (n := 6) h rfl)]
  rfl
theorem dk_7 {code : ByteArray} {pc : Nat} (h : code.data.toList[pc]? = some 7) : decode code pc = .ok (.iconst 4, 1) := by
  refine dec_of (k := 1) ?_
  unfold Jvm.ClassFile.Decoder.instr
  rw [rd_bind (u1_at (n := 7) h rfl)]
  rfl
theorem dk_8 {code : ByteArray} {pc : Nat} (h : code.data.toList[pc]? = some 8) : decode code pc = .ok (.iconst 5, 1) := by
  refine dec_of (k := 1) ?_
  unfold Jvm.ClassFile.Decoder.instr
  rw [rd_bind (u1_at (n := 8) h rfl)]
  rfl
theorem dk_21 {code : ByteArray} {pc n : Nat} {c : UInt8} (h : code.data.toList[pc]? = some 21) (h2 : code.data.toList[pc + 1]? = some c) (hn : c.toNat = n) : decode code pc = .ok (.iload n, 2) := by
  refine dec_of (k := 2) ?_
  unfold Jvm.ClassFile.Decoder.instr
  rw [rd_bind (u1_at (n := 21) h rfl)]
  show (Jvm.ClassFile.Reader.u1 >>= fun x => pure (Jvm.ClassFile.Instr.iload x) : Jvm.ClassFile.Decoder Jvm.ClassFile.Instr) code (pc + 1) = _
  rw [rd_bind (u1_at h2 hn)]
  rfl
theorem dk_182 {code : ByteArray} {pc n : Nat} {b c : UInt8} (h : code.data.toList[pc]? = some 182) (h2 : code.data.toList[pc + 1]? = some b) (h3 : code.data.toList[pc + 2]? = some c) (hn : b.toNat * 256 + c.toNat = n) : decode code pc = .ok (.invokevirtual n, 3) := by
  refine dec_of (k := 3) ?_
  unfold Jvm.ClassFile.Decoder.instr
  rw [rd_bind (u1_at (n := 182) h rfl)]
  show (Jvm.ClassFile.Reader.u2 >>= fun x => pure (Jvm.ClassFile.Instr.invokevirtual x) : Jvm.ClassFile.Decoder Jvm.ClassFile.Instr) code (pc + 1) = _
  rw [rd_bind (u2_at (m := 0) h2 h3 hn)]
  rfl
theorem dk_167 {code : ByteArray} {pc : Nat} {n : Int} {b c : UInt8} (h : code.data.toList[pc]? = some 167) (h2 : code.data.toList[pc + 1]? = some b) (h3 : code.data.toList[pc + 2]? = some c) (hn : Jvm.ClassFile.Reader.signed 16 (b.toNat * 256 + c.toNat) = n) : decode code pc = .ok (.goto n, 3) := by
  refine dec_of (k := 3) ?_
  unfold Jvm.ClassFile.Decoder.instr
  rw [rd_bind (u1_at (n := 167) h rfl)]
  show (Jvm.ClassFile.Reader.s2 >>= fun x => pure (Jvm.ClassFile.Instr.goto x) : Jvm.ClassFile.Decoder Jvm.ClassFile.Instr) code (pc + 1) = _
  rw [rd_bind (show (Jvm.ClassFile.Reader.s2 : Jvm.ClassFile.Decoder Int) code (pc + 1) = .ok (n, pc + 3) from (rd_map _ (u2_at (m := 0) h2 h3 rfl)).trans (by rw [hn]))]
  rfl
theorem s1_at {code : ByteArray} {pc : Nat} {n : Int} {b : UInt8} (h : code.data.toList[pc]? = some b) (hn : Jvm.ClassFile.Reader.signed 8 b.toNat = n) : (Jvm.ClassFile.Reader.s1 : Jvm.ClassFile.Decoder Int) code pc = .ok (n, pc + 1) := (rd_map _ (u1_at h rfl)).trans (by rw [hn])
theorem s2_at {code : ByteArray} {pc : Nat} {n : Int} {b c : UInt8} (h : code.data.toList[pc]? = some b) (h2 : code.data.toList[pc + 1]? = some c) (hn : Jvm.ClassFile.Reader.signed 16 (b.toNat * 256 + c.toNat) = n) : (Jvm.ClassFile.Reader.s2 : Jvm.ClassFile.Decoder Int) code pc = .ok (n, pc + 2) := (rd_map _ (u2_at (m := 0) h h2 rfl)).trans (by rw [hn])
theorem dk_1 {code : ByteArray} {pc : Nat} (h0 : code.data.toList[pc]? = some 1) : decode code pc = .ok (.aconst_null, 1) := by
  refine dec_of (k := 1) ?_
  unfold Jvm.ClassFile.Decoder.instr
  rw [rd_bind (u1_at (n := 1) h0 rfl)]
  rfl
theorem dk_2 {code : ByteArray} {pc : Nat} (h0 : code.data.toList[pc]? = some 2) : decode code pc = .ok ((.iconst (-1)), 1) := by
  refine dec_of (k := 1) ?_
  unfold Jvm.ClassFile.Decoder.instr
  rw [rd_bind (u1_at (n := 2) h0 rfl)]
  rfl
theorem dk_9 {code : ByteArray} {pc : Nat} (h0 : code.data.toList[pc]? = some 9) : decode code pc = .ok ((.lconst 0), 1) := by
  refine dec_of (k := 1) ?_
  unfold Jvm.ClassFile.Decoder.instr
  rw [rd_bind (u1_at (n := 9) h0 rfl)]
  rfl
theorem dk_10 {code : ByteArray} {pc : Nat} (h0 : code.data.toList[pc]? = some 10) : decode code pc = .ok ((.lconst 1), 1) := by
  refine dec_of (k := 1) ?_
  unfold Jvm.ClassFile.Decoder.instr
  rw [rd_bind (u1_at (n := 10) h0 rfl)]
  rfl
theorem dk_16 {code : ByteArray} {pc : Nat} {n : Int} {b : UInt8} (h0 : code.data.toList[pc]? = some 16) (h1 : code.data.toList[pc + 1]? = some b) (hn : Jvm.ClassFile.Reader.signed 8 b.toNat = n) : decode code pc = .ok (.bipush n, 2) := by
  refine dec_of (k := 2) ?_
  unfold Jvm.ClassFile.Decoder.instr
  rw [rd_bind (u1_at (n := 16) h0 rfl)]
  show (Jvm.ClassFile.Reader.s1 >>= fun x => pure (Jvm.ClassFile.Instr.bipush x) : Jvm.ClassFile.Decoder Jvm.ClassFile.Instr) code (pc + 1) = _
  rw [rd_bind (s1_at h1 hn)]
  rfl
theorem dk_17 {code : ByteArray} {pc : Nat} {n : Int} {b c : UInt8} (h0 : code.data.toList[pc]? = some 17) (h1 : code.data.toList[pc + 1]? = some b) (h2 : code.data.toList[pc + 1 + 1]? = some c) (hn : Jvm.ClassFile.Reader.signed 16 (b.toNat * 256 + c.toNat) = n) : decode code pc = .ok (.sipush n, 3) := by
  refine dec_of (k := 3) ?_
  unfold Jvm.ClassFile.Decoder.instr
  rw [rd_bind (u1_at (n := 17) h0 rfl)]
  show (Jvm.ClassFile.Reader.s2 >>= fun x => pure (Jvm.ClassFile.Instr.sipush x) : Jvm.ClassFile.Decoder Jvm.ClassFile.Instr) code (pc + 1) = _
  rw [rd_bind (s2_at h1 h2 hn)]
  rfl
theorem dk_18 {code : ByteArray} {pc : Nat} {n : Nat} {b : UInt8} (h0 : code.data.toList[pc]? = some 18) (h1 : code.data.toList[pc + 1]? = some b) (hn : b.toNat = n) : decode code pc = .ok (.ldc n, 2) := by
  refine dec_of (k := 2) ?_
  unfold Jvm.ClassFile.Decoder.instr
  rw [rd_bind (u1_at (n := 18) h0 rfl)]
  show (Jvm.ClassFile.Reader.u1 >>= fun x => pure (Jvm.ClassFile.Instr.ldc x) : Jvm.ClassFile.Decoder Jvm.ClassFile.Instr) code (pc + 1) = _
  rw [rd_bind (u1_at h1 hn)]
  rfl
theorem dk_19 {code : ByteArray} {pc : Nat} {n : Nat} {b c : UInt8} (h0 : code.data.toList[pc]? = some 19) (h1 : code.data.toList[pc + 1]? = some b) (h2 : code.data.toList[pc + 1 + 1]? = some c) (hn : b.toNat * 256 + c.toNat = n) : decode code pc = .ok (.ldc_w n, 3) := by
  refine dec_of (k := 3) ?_
  unfold Jvm.ClassFile.Decoder.instr
  rw [rd_bind (u1_at (n := 19) h0 rfl)]
  show (Jvm.ClassFile.Reader.u2 >>= fun x => pure (Jvm.ClassFile.Instr.ldc_w x) : Jvm.ClassFile.Decoder Jvm.ClassFile.Instr) code (pc + 1) = _
  rw [rd_bind (u2_at (m := 0) h1 h2 hn)]
  rfl
theorem dk_20 {code : ByteArray} {pc : Nat} {n : Nat} {b c : UInt8} (h0 : code.data.toList[pc]? = some 20) (h1 : code.data.toList[pc + 1]? = some b) (h2 : code.data.toList[pc + 1 + 1]? = some c) (hn : b.toNat * 256 + c.toNat = n) : decode code pc = .ok (.ldc2_w n, 3) := by
  refine dec_of (k := 3) ?_
  unfold Jvm.ClassFile.Decoder.instr
  rw [rd_bind (u1_at (n := 20) h0 rfl)]
  show (Jvm.ClassFile.Reader.u2 >>= fun x => pure (Jvm.ClassFile.Instr.ldc2_w x) : Jvm.ClassFile.Decoder Jvm.ClassFile.Instr) code (pc + 1) = _
  rw [rd_bind (u2_at (m := 0) h1 h2 hn)]
  rfl
theorem dk_22 {code : ByteArray} {pc : Nat} {n : Nat} {b : UInt8} (h0 : code.data.toList[pc]? = some 22) (h1 : code.data.toList[pc + 1]? = some b) (hn : b.toNat = n) : decode code pc = .ok (.lload n, 2) := by
  refine dec_of (k := 2) ?_
  unfold Jvm.ClassFile.Decoder.instr
  rw [rd_bind (u1_at (n := 22) h0 rfl)]
  show (Jvm.ClassFile.Reader.u1 >>= fun x => pure (Jvm.ClassFile.Instr.lload x) : Jvm.ClassFile.Decoder Jvm.ClassFile.Instr) code (pc + 1) = _
  rw [rd_bind (u1_at h1 hn)]
  rfl
theorem dk_25 {code : ByteArray} {pc : Nat} {n : Nat} {b : UInt8} (h0 : code.data.toList[pc]? = some 25) (h1 : code.data.toList[pc + 1]? = some b) (hn : b.toNat = n) : decode code pc = .ok (.aload n, 2) := by
  refine dec_of (k := 2) ?_
  unfold Jvm.ClassFile.Decoder.instr
  rw [rd_bind (u1_at (n := 25) h0 rfl)]
  show (Jvm.ClassFile.Reader.u1 >>= fun x => pure (Jvm.ClassFile.Instr.aload x) : Jvm.ClassFile.Decoder Jvm.ClassFile.Instr) code (pc + 1) = _
  rw [rd_bind (u1_at h1 hn)]
  rfl
theorem dk_26 {code : ByteArray} {pc : Nat} (h0 : code.data.toList[pc]? = some 26) : decode code pc = .ok ((.iload_n 0), 1) := by
  refine dec_of (k := 1) ?_
  unfold Jvm.ClassFile.Decoder.instr
  rw [rd_bind (u1_at (n := 26) h0 rfl)]
  rfl
theorem dk_27 {code : ByteArray} {pc : Nat} (h0 : code.data.toList[pc]? = some 27) : decode code pc = .ok ((.iload_n 1), 1) := by
  refine dec_of (k := 1) ?_
  unfold Jvm.ClassFile.Decoder.instr
  rw [rd_bind (u1_at (n := 27) h0 rfl)]
  rfl
theorem dk_28 {code : ByteArray} {pc : Nat} (h0 : code.data.toList[pc]? = some 28) : decode code pc = .ok ((.iload_n 2), 1) := by
  refine dec_of (k := 1) ?_
  unfold Jvm.ClassFile.Decoder.instr
  rw [rd_bind (u1_at (n := 28) h0 rfl)]
  rfl
theorem dk_29 {code : ByteArray} {pc : Nat} (h0 : code.data.toList[pc]? = some 29) : decode code pc = .ok ((.iload_n 3), 1) := by
  refine dec_of (k := 1) ?_
  unfold Jvm.ClassFile.Decoder.instr
  rw [rd_bind (u1_at (n := 29) h0 rfl)]
  rfl
theorem dk_30 {code : ByteArray} {pc : Nat} (h0 : code.data.toList[pc]? = some 30) : decode code pc = .ok ((.lload_n 0), 1) := by
  refine dec_of (k := 1) ?_
  unfold Jvm.ClassFile.Decoder.instr
  rw [rd_bind (u1_at (n := 30) h0 rfl)]
  rfl
theorem dk_31 {code : ByteArray} {pc : Nat} (h0 : code.data.toList[pc]? = some 31) : decode code pc = .ok ((.lload_n 1), 1) := by
  refine dec_of (k := 1) ?_
  unfold Jvm.ClassFile.Decoder.instr
  rw [rd_bind (u1_at (n := 31) h0 rfl)]
  rfl
theorem dk_32 {code : ByteArray} {pc : Nat} (h0 : code.data.toList[pc]? = some 32) : decode code pc = .ok ((.lload_n 2), 1) := by
  refine dec_of (k := 1) ?_
  unfold Jvm.ClassFile.Decoder.instr
  rw [rd_bind (u1_at (n := 32) h0 rfl)]
  rfl
theorem dk_33 {code : ByteArray} {pc : Nat} (h0 : code.data.toList[pc]? = some 33) : decode code pc = .ok ((.lload_n 3), 1) := by
  refine dec_of (k := 1) ?_
  unfold Jvm.ClassFile.Decoder.instr
  rw [rd_bind (u1_at (n := 33) h0 rfl)]
  rfl
theorem dk_47 {code : ByteArray} {pc : Nat} (h0 : code.data.toList[pc]? = some 47) : decode code pc = .ok (.laload, 1) := by
  refine dec_of (k := 1) ?_
  unfold Jvm.ClassFile.Decoder.instr
  rw [rd_bind (u1_at (n := 47) h0 rfl)]
  rfl
theorem dk_50 {code : ByteArray} {pc : Nat} (h0 : code.data.toList[pc]? = some 50) : decode code pc = .ok (.aaload, 1) := by
  refine dec_of (k := 1) ?_
  unfold Jvm.ClassFile.Decoder.instr
  rw [rd_bind (u1_at (n := 50) h0 rfl)]
  rfl
theorem dk_51 {code : ByteArray} {pc : Nat} (h0 : code.data.toList[pc]? = some 51) : decode code pc = .ok (.baload, 1) := by
  refine dec_of (k := 1) ?_
  unfold Jvm.ClassFile.Decoder.instr
  rw [rd_bind (u1_at (n := 51) h0 rfl)]
  rfl
theorem dk_54 {code : ByteArray} {pc : Nat} {n : Nat} {b : UInt8} (h0 : code.data.toList[pc]? = some 54) (h1 : code.data.toList[pc + 1]? = some b) (hn : b.toNat = n) : decode code pc = .ok (.istore n, 2) := by
  refine dec_of (k := 2) ?_
  unfold Jvm.ClassFile.Decoder.instr
  rw [rd_bind (u1_at (n := 54) h0 rfl)]
  show (Jvm.ClassFile.Reader.u1 >>= fun x => pure (Jvm.ClassFile.Instr.istore x) : Jvm.ClassFile.Decoder Jvm.ClassFile.Instr) code (pc + 1) = _
  rw [rd_bind (u1_at h1 hn)]
  rfl
theorem dk_55 {code : ByteArray} {pc : Nat} {n : Nat} {b : UInt8} (h0 : code.data.toList[pc]? = some 55) (h1 : code.data.toList[pc + 1]? = some b) (hn : b.toNat = n) : decode code pc = .ok (.lstore n, 2) := by
  refine dec_of (k := 2) ?_
  unfold Jvm.ClassFile.Decoder.instr
  rw [rd_bind (u1_at (n := 55) h0 rfl)]
  show (Jvm.ClassFile.Reader.u1 >>= fun x => pure (Jvm.ClassFile.Instr.lstore x) : Jvm.ClassFile.Decoder Jvm.ClassFile.Instr) code (pc + 1) = _
  rw [rd_bind (u1_at h1 hn)]
  rfl
theorem dk_58 {code : ByteArray} {pc : Nat} {n : Nat} {b : UInt8} (h0 : code.data.toList[pc]? = some 58) (h1 : code.data.toList[pc + 1]? = some b) (hn : b.toNat = n) : decode code pc = .ok (.astore n, 2) := by
  refine dec_of (k := 2) ?_
  unfold Jvm.ClassFile.Decoder.instr
  rw [rd_bind (u1_at (n := 58) h0 rfl)]
  show (Jvm.ClassFile.Reader.u1 >>= fun x => pure (Jvm.ClassFile.Instr.astore x) : Jvm.ClassFile.Decoder Jvm.ClassFile.Instr) code (pc + 1) = _
  rw [rd_bind (u1_at h1 hn)]
  rfl
theorem dk_59 {code : ByteArray} {pc : Nat} (h0 : code.data.toList[pc]? = some 59) : decode code pc = .ok ((.istore_n 0), 1) := by
  refine dec_of (k := 1) ?_
  unfold Jvm.ClassFile.Decoder.instr
  rw [rd_bind (u1_at (n := 59) h0 rfl)]
  rfl
theorem dk_60 {code : ByteArray} {pc : Nat} (h0 : code.data.toList[pc]? = some 60) : decode code pc = .ok ((.istore_n 1), 1) := by
  refine dec_of (k := 1) ?_
  unfold Jvm.ClassFile.Decoder.instr
  rw [rd_bind (u1_at (n := 60) h0 rfl)]
  rfl
theorem dk_61 {code : ByteArray} {pc : Nat} (h0 : code.data.toList[pc]? = some 61) : decode code pc = .ok ((.istore_n 2), 1) := by
  refine dec_of (k := 1) ?_
  unfold Jvm.ClassFile.Decoder.instr
  rw [rd_bind (u1_at (n := 61) h0 rfl)]
  rfl
theorem dk_62 {code : ByteArray} {pc : Nat} (h0 : code.data.toList[pc]? = some 62) : decode code pc = .ok ((.istore_n 3), 1) := by
  refine dec_of (k := 1) ?_
  unfold Jvm.ClassFile.Decoder.instr
  rw [rd_bind (u1_at (n := 62) h0 rfl)]
  rfl
theorem dk_63 {code : ByteArray} {pc : Nat} (h0 : code.data.toList[pc]? = some 63) : decode code pc = .ok ((.lstore_n 0), 1) := by
  refine dec_of (k := 1) ?_
  unfold Jvm.ClassFile.Decoder.instr
  rw [rd_bind (u1_at (n := 63) h0 rfl)]
  rfl
theorem dk_64 {code : ByteArray} {pc : Nat} (h0 : code.data.toList[pc]? = some 64) : decode code pc = .ok ((.lstore_n 1), 1) := by
  refine dec_of (k := 1) ?_
  unfold Jvm.ClassFile.Decoder.instr
  rw [rd_bind (u1_at (n := 64) h0 rfl)]
  rfl
theorem dk_65 {code : ByteArray} {pc : Nat} (h0 : code.data.toList[pc]? = some 65) : decode code pc = .ok ((.lstore_n 2), 1) := by
  refine dec_of (k := 1) ?_
  unfold Jvm.ClassFile.Decoder.instr
  rw [rd_bind (u1_at (n := 65) h0 rfl)]
  rfl
theorem dk_66 {code : ByteArray} {pc : Nat} (h0 : code.data.toList[pc]? = some 66) : decode code pc = .ok ((.lstore_n 3), 1) := by
  refine dec_of (k := 1) ?_
  unfold Jvm.ClassFile.Decoder.instr
  rw [rd_bind (u1_at (n := 66) h0 rfl)]
  rfl
theorem dk_75 {code : ByteArray} {pc : Nat} (h0 : code.data.toList[pc]? = some 75) : decode code pc = .ok ((.astore_n 0), 1) := by
  refine dec_of (k := 1) ?_
  unfold Jvm.ClassFile.Decoder.instr
  rw [rd_bind (u1_at (n := 75) h0 rfl)]
  rfl
theorem dk_76 {code : ByteArray} {pc : Nat} (h0 : code.data.toList[pc]? = some 76) : decode code pc = .ok ((.astore_n 1), 1) := by
  refine dec_of (k := 1) ?_
  unfold Jvm.ClassFile.Decoder.instr
  rw [rd_bind (u1_at (n := 76) h0 rfl)]
  rfl
theorem dk_77 {code : ByteArray} {pc : Nat} (h0 : code.data.toList[pc]? = some 77) : decode code pc = .ok ((.astore_n 2), 1) := by
  refine dec_of (k := 1) ?_
  unfold Jvm.ClassFile.Decoder.instr
  rw [rd_bind (u1_at (n := 77) h0 rfl)]
  rfl
theorem dk_78 {code : ByteArray} {pc : Nat} (h0 : code.data.toList[pc]? = some 78) : decode code pc = .ok ((.astore_n 3), 1) := by
  refine dec_of (k := 1) ?_
  unfold Jvm.ClassFile.Decoder.instr
  rw [rd_bind (u1_at (n := 78) h0 rfl)]
  rfl
theorem dk_79 {code : ByteArray} {pc : Nat} (h0 : code.data.toList[pc]? = some 79) : decode code pc = .ok (.iastore, 1) := by
  refine dec_of (k := 1) ?_
  unfold Jvm.ClassFile.Decoder.instr
  rw [rd_bind (u1_at (n := 79) h0 rfl)]
  rfl
theorem dk_80 {code : ByteArray} {pc : Nat} (h0 : code.data.toList[pc]? = some 80) : decode code pc = .ok (.lastore, 1) := by
  refine dec_of (k := 1) ?_
  unfold Jvm.ClassFile.Decoder.instr
  rw [rd_bind (u1_at (n := 80) h0 rfl)]
  rfl
theorem dk_83 {code : ByteArray} {pc : Nat} (h0 : code.data.toList[pc]? = some 83) : decode code pc = .ok (.aastore, 1) := by
  refine dec_of (k := 1) ?_
  unfold Jvm.ClassFile.Decoder.instr
  rw [rd_bind (u1_at (n := 83) h0 rfl)]
  rfl
theorem dk_84 {code : ByteArray} {pc : Nat} (h0 : code.data.toList[pc]? = some 84) : decode code pc = .ok (.bastore, 1) := by
  refine dec_of (k := 1) ?_
  unfold Jvm.ClassFile.Decoder.instr
  rw [rd_bind (u1_at (n := 84) h0 rfl)]
  rfl
theorem dk_89 {code : ByteArray} {pc : Nat} (h0 : code.data.toList[pc]? = some 89) : decode code pc = .ok (.dup, 1) := by
  refine dec_of (k := 1) ?_
  unfold Jvm.ClassFile.Decoder.instr
  rw [rd_bind (u1_at (n := 89) h0 rfl)]
  rfl
theorem dk_90 {code : ByteArray} {pc : Nat} (h0 : code.data.toList[pc]? = some 90) : decode code pc = .ok (.dup_x1, 1) := by
  refine dec_of (k := 1) ?_
  unfold Jvm.ClassFile.Decoder.instr
  rw [rd_bind (u1_at (n := 90) h0 rfl)]
  rfl
theorem dk_91 {code : ByteArray} {pc : Nat} (h0 : code.data.toList[pc]? = some 91) : decode code pc = .ok (.dup_x2, 1) := by
  refine dec_of (k := 1) ?_
  unfold Jvm.ClassFile.Decoder.instr
  rw [rd_bind (u1_at (n := 91) h0 rfl)]
  rfl
theorem dk_92 {code : ByteArray} {pc : Nat} (h0 : code.data.toList[pc]? = some 92) : decode code pc = .ok (.dup2, 1) := by
  refine dec_of (k := 1) ?_
  unfold Jvm.ClassFile.Decoder.instr
  rw [rd_bind (u1_at (n := 92) h0 rfl)]
  rfl
theorem dk_93 {code : ByteArray} {pc : Nat} (h0 : code.data.toList[pc]? = some 93) : decode code pc = .ok (.dup2_x1, 1) := by
  refine dec_of (k := 1) ?_
  unfold Jvm.ClassFile.Decoder.instr
  rw [rd_bind (u1_at (n := 93) h0 rfl)]
  rfl
theorem dk_97 {code : ByteArray} {pc : Nat} (h0 : code.data.toList[pc]? = some 97) : decode code pc = .ok (.ladd, 1) := by
  refine dec_of (k := 1) ?_
  unfold Jvm.ClassFile.Decoder.instr
  rw [rd_bind (u1_at (n := 97) h0 rfl)]
  rfl
theorem dk_100 {code : ByteArray} {pc : Nat} (h0 : code.data.toList[pc]? = some 100) : decode code pc = .ok (.isub, 1) := by
  refine dec_of (k := 1) ?_
  unfold Jvm.ClassFile.Decoder.instr
  rw [rd_bind (u1_at (n := 100) h0 rfl)]
  rfl
theorem dk_101 {code : ByteArray} {pc : Nat} (h0 : code.data.toList[pc]? = some 101) : decode code pc = .ok (.lsub, 1) := by
  refine dec_of (k := 1) ?_
  unfold Jvm.ClassFile.Decoder.instr
  rw [rd_bind (u1_at (n := 101) h0 rfl)]
  rfl
theorem dk_104 {code : ByteArray} {pc : Nat} (h0 : code.data.toList[pc]? = some 104) : decode code pc = .ok (.imul, 1) := by
  refine dec_of (k := 1) ?_
  unfold Jvm.ClassFile.Decoder.instr
  rw [rd_bind (u1_at (n := 104) h0 rfl)]
  rfl
theorem dk_105 {code : ByteArray} {pc : Nat} (h0 : code.data.toList[pc]? = some 105) : decode code pc = .ok (.lmul, 1) := by
  refine dec_of (k := 1) ?_
  unfold Jvm.ClassFile.Decoder.instr
  rw [rd_bind (u1_at (n := 105) h0 rfl)]
  rfl
theorem dk_108 {code : ByteArray} {pc : Nat} (h0 : code.data.toList[pc]? = some 108) : decode code pc = .ok (.idiv, 1) := by
  refine dec_of (k := 1) ?_
  unfold Jvm.ClassFile.Decoder.instr
  rw [rd_bind (u1_at (n := 108) h0 rfl)]
  rfl
theorem dk_109 {code : ByteArray} {pc : Nat} (h0 : code.data.toList[pc]? = some 109) : decode code pc = .ok (.ldiv, 1) := by
  refine dec_of (k := 1) ?_
  unfold Jvm.ClassFile.Decoder.instr
  rw [rd_bind (u1_at (n := 109) h0 rfl)]
  rfl
theorem dk_112 {code : ByteArray} {pc : Nat} (h0 : code.data.toList[pc]? = some 112) : decode code pc = .ok (.irem, 1) := by
  refine dec_of (k := 1) ?_
  unfold Jvm.ClassFile.Decoder.instr
  rw [rd_bind (u1_at (n := 112) h0 rfl)]
  rfl
theorem dk_113 {code : ByteArray} {pc : Nat} (h0 : code.data.toList[pc]? = some 113) : decode code pc = .ok (.lrem, 1) := by
  refine dec_of (k := 1) ?_
  unfold Jvm.ClassFile.Decoder.instr
  rw [rd_bind (u1_at (n := 113) h0 rfl)]
  rfl
theorem dk_116 {code : ByteArray} {pc : Nat} (h0 : code.data.toList[pc]? = some 116) : decode code pc = .ok (.ineg, 1) := by
  refine dec_of (k := 1) ?_
  unfold Jvm.ClassFile.Decoder.instr
  rw [rd_bind (u1_at (n := 116) h0 rfl)]
  rfl
theorem dk_117 {code : ByteArray} {pc : Nat} (h0 : code.data.toList[pc]? = some 117) : decode code pc = .ok (.lneg, 1) := by
  refine dec_of (k := 1) ?_
  unfold Jvm.ClassFile.Decoder.instr
  rw [rd_bind (u1_at (n := 117) h0 rfl)]
  rfl
theorem dk_120 {code : ByteArray} {pc : Nat} (h0 : code.data.toList[pc]? = some 120) : decode code pc = .ok (.ishl, 1) := by
  refine dec_of (k := 1) ?_
  unfold Jvm.ClassFile.Decoder.instr
  rw [rd_bind (u1_at (n := 120) h0 rfl)]
  rfl
theorem dk_121 {code : ByteArray} {pc : Nat} (h0 : code.data.toList[pc]? = some 121) : decode code pc = .ok (.lshl, 1) := by
  refine dec_of (k := 1) ?_
  unfold Jvm.ClassFile.Decoder.instr
  rw [rd_bind (u1_at (n := 121) h0 rfl)]
  rfl
theorem dk_122 {code : ByteArray} {pc : Nat} (h0 : code.data.toList[pc]? = some 122) : decode code pc = .ok (.ishr, 1) := by
  refine dec_of (k := 1) ?_
  unfold Jvm.ClassFile.Decoder.instr
  rw [rd_bind (u1_at (n := 122) h0 rfl)]
  rfl
theorem dk_123 {code : ByteArray} {pc : Nat} (h0 : code.data.toList[pc]? = some 123) : decode code pc = .ok (.lshr, 1) := by
  refine dec_of (k := 1) ?_
  unfold Jvm.ClassFile.Decoder.instr
  rw [rd_bind (u1_at (n := 123) h0 rfl)]
  rfl
theorem dk_124 {code : ByteArray} {pc : Nat} (h0 : code.data.toList[pc]? = some 124) : decode code pc = .ok (.iushr, 1) := by
  refine dec_of (k := 1) ?_
  unfold Jvm.ClassFile.Decoder.instr
  rw [rd_bind (u1_at (n := 124) h0 rfl)]
  rfl
theorem dk_125 {code : ByteArray} {pc : Nat} (h0 : code.data.toList[pc]? = some 125) : decode code pc = .ok (.lushr, 1) := by
  refine dec_of (k := 1) ?_
  unfold Jvm.ClassFile.Decoder.instr
  rw [rd_bind (u1_at (n := 125) h0 rfl)]
  rfl
theorem dk_126 {code : ByteArray} {pc : Nat} (h0 : code.data.toList[pc]? = some 126) : decode code pc = .ok (.iand, 1) := by
  refine dec_of (k := 1) ?_
  unfold Jvm.ClassFile.Decoder.instr
  rw [rd_bind (u1_at (n := 126) h0 rfl)]
  rfl
theorem dk_127 {code : ByteArray} {pc : Nat} (h0 : code.data.toList[pc]? = some 127) : decode code pc = .ok (.land, 1) := by
  refine dec_of (k := 1) ?_
  unfold Jvm.ClassFile.Decoder.instr
  rw [rd_bind (u1_at (n := 127) h0 rfl)]
  rfl
theorem dk_128 {code : ByteArray} {pc : Nat} (h0 : code.data.toList[pc]? = some 128) : decode code pc = .ok (.ior, 1) := by
  refine dec_of (k := 1) ?_
  unfold Jvm.ClassFile.Decoder.instr
  rw [rd_bind (u1_at (n := 128) h0 rfl)]
  rfl
theorem dk_129 {code : ByteArray} {pc : Nat} (h0 : code.data.toList[pc]? = some 129) : decode code pc = .ok (.lor, 1) := by
  refine dec_of (k := 1) ?_
  unfold Jvm.ClassFile.Decoder.instr
  rw [rd_bind (u1_at (n := 129) h0 rfl)]
  rfl
theorem dk_130 {code : ByteArray} {pc : Nat} (h0 : code.data.toList[pc]? = some 130) : decode code pc = .ok (.ixor, 1) := by
  refine dec_of (k := 1) ?_
  unfold Jvm.ClassFile.Decoder.instr
  rw [rd_bind (u1_at (n := 130) h0 rfl)]
  rfl
theorem dk_131 {code : ByteArray} {pc : Nat} (h0 : code.data.toList[pc]? = some 131) : decode code pc = .ok (.lxor, 1) := by
  refine dec_of (k := 1) ?_
  unfold Jvm.ClassFile.Decoder.instr
  rw [rd_bind (u1_at (n := 131) h0 rfl)]
  rfl
theorem dk_133 {code : ByteArray} {pc : Nat} (h0 : code.data.toList[pc]? = some 133) : decode code pc = .ok (.i2l, 1) := by
  refine dec_of (k := 1) ?_
  unfold Jvm.ClassFile.Decoder.instr
  rw [rd_bind (u1_at (n := 133) h0 rfl)]
  rfl
theorem dk_136 {code : ByteArray} {pc : Nat} (h0 : code.data.toList[pc]? = some 136) : decode code pc = .ok (.l2i, 1) := by
  refine dec_of (k := 1) ?_
  unfold Jvm.ClassFile.Decoder.instr
  rw [rd_bind (u1_at (n := 136) h0 rfl)]
  rfl
theorem dk_145 {code : ByteArray} {pc : Nat} (h0 : code.data.toList[pc]? = some 145) : decode code pc = .ok (.i2b, 1) := by
  refine dec_of (k := 1) ?_
  unfold Jvm.ClassFile.Decoder.instr
  rw [rd_bind (u1_at (n := 145) h0 rfl)]
  rfl
theorem dk_146 {code : ByteArray} {pc : Nat} (h0 : code.data.toList[pc]? = some 146) : decode code pc = .ok (.i2c, 1) := by
  refine dec_of (k := 1) ?_
  unfold Jvm.ClassFile.Decoder.instr
  rw [rd_bind (u1_at (n := 146) h0 rfl)]
  rfl
theorem dk_147 {code : ByteArray} {pc : Nat} (h0 : code.data.toList[pc]? = some 147) : decode code pc = .ok (.i2s, 1) := by
  refine dec_of (k := 1) ?_
  unfold Jvm.ClassFile.Decoder.instr
  rw [rd_bind (u1_at (n := 147) h0 rfl)]
  rfl
theorem dk_148 {code : ByteArray} {pc : Nat} (h0 : code.data.toList[pc]? = some 148) : decode code pc = .ok (.lcmp, 1) := by
  refine dec_of (k := 1) ?_
  unfold Jvm.ClassFile.Decoder.instr
  rw [rd_bind (u1_at (n := 148) h0 rfl)]
  rfl
theorem dk_153 {code : ByteArray} {pc : Nat} {n : Int} {b c : UInt8} (h0 : code.data.toList[pc]? = some 153) (h1 : code.data.toList[pc + 1]? = some b) (h2 : code.data.toList[pc + 1 + 1]? = some c) (hn : Jvm.ClassFile.Reader.signed 16 (b.toNat * 256 + c.toNat) = n) : decode code pc = .ok (.ifCond .eq n, 3) := by
  refine dec_of (k := 3) ?_
  unfold Jvm.ClassFile.Decoder.instr
  rw [rd_bind (u1_at (n := 153) h0 rfl)]
  show (Jvm.ClassFile.Reader.s2 >>= fun x => pure (Jvm.ClassFile.Instr.ifCond .eq x) : Jvm.ClassFile.Decoder Jvm.ClassFile.Instr) code (pc + 1) = _
  rw [rd_bind (s2_at h1 h2 hn)]
  rfl
theorem dk_154 {code : ByteArray} {pc : Nat} {n : Int} {b c : UInt8} (h0 : code.data.toList[pc]? = some 154) (h1 : code.data.toList[pc + 1]? = some b) (h2 : code.data.toList[pc + 1 + 1]? = some c) (hn : Jvm.ClassFile.Reader.signed 16 (b.toNat * 256 + c.toNat) = n) : decode code pc = .ok (.ifCond .ne n, 3) := by
  refine dec_of (k := 3) ?_
  unfold Jvm.ClassFile.Decoder.instr
  rw [rd_bind (u1_at (n := 154) h0 rfl)]
  show (Jvm.ClassFile.Reader.s2 >>= fun x => pure (Jvm.ClassFile.Instr.ifCond .ne x) : Jvm.ClassFile.Decoder Jvm.ClassFile.Instr) code (pc + 1) = _
  rw [rd_bind (s2_at h1 h2 hn)]
  rfl
theorem dk_155 {code : ByteArray} {pc : Nat} {n : Int} {b c : UInt8} (h0 : code.data.toList[pc]? = some 155) (h1 : code.data.toList[pc + 1]? = some b) (h2 : code.data.toList[pc + 1 + 1]? = some c) (hn : Jvm.ClassFile.Reader.signed 16 (b.toNat * 256 + c.toNat) = n) : decode code pc = .ok (.ifCond .lt n, 3) := by
  refine dec_of (k := 3) ?_
  unfold Jvm.ClassFile.Decoder.instr
  rw [rd_bind (u1_at (n := 155) h0 rfl)]
  show (Jvm.ClassFile.Reader.s2 >>= fun x => pure (Jvm.ClassFile.Instr.ifCond .lt x) : Jvm.ClassFile.Decoder Jvm.ClassFile.Instr) code (pc + 1) = _
  rw [rd_bind (s2_at h1 h2 hn)]
  rfl
theorem dk_156 {code : ByteArray} {pc : Nat} {n : Int} {b c : UInt8} (h0 : code.data.toList[pc]? = some 156) (h1 : code.data.toList[pc + 1]? = some b) (h2 : code.data.toList[pc + 1 + 1]? = some c) (hn : Jvm.ClassFile.Reader.signed 16 (b.toNat * 256 + c.toNat) = n) : decode code pc = .ok (.ifCond .ge n, 3) := by
  refine dec_of (k := 3) ?_
  unfold Jvm.ClassFile.Decoder.instr
  rw [rd_bind (u1_at (n := 156) h0 rfl)]
  show (Jvm.ClassFile.Reader.s2 >>= fun x => pure (Jvm.ClassFile.Instr.ifCond .ge x) : Jvm.ClassFile.Decoder Jvm.ClassFile.Instr) code (pc + 1) = _
  rw [rd_bind (s2_at h1 h2 hn)]
  rfl
theorem dk_157 {code : ByteArray} {pc : Nat} {n : Int} {b c : UInt8} (h0 : code.data.toList[pc]? = some 157) (h1 : code.data.toList[pc + 1]? = some b) (h2 : code.data.toList[pc + 1 + 1]? = some c) (hn : Jvm.ClassFile.Reader.signed 16 (b.toNat * 256 + c.toNat) = n) : decode code pc = .ok (.ifCond .gt n, 3) := by
  refine dec_of (k := 3) ?_
  unfold Jvm.ClassFile.Decoder.instr
  rw [rd_bind (u1_at (n := 157) h0 rfl)]
  show (Jvm.ClassFile.Reader.s2 >>= fun x => pure (Jvm.ClassFile.Instr.ifCond .gt x) : Jvm.ClassFile.Decoder Jvm.ClassFile.Instr) code (pc + 1) = _
  rw [rd_bind (s2_at h1 h2 hn)]
  rfl
theorem dk_158 {code : ByteArray} {pc : Nat} {n : Int} {b c : UInt8} (h0 : code.data.toList[pc]? = some 158) (h1 : code.data.toList[pc + 1]? = some b) (h2 : code.data.toList[pc + 1 + 1]? = some c) (hn : Jvm.ClassFile.Reader.signed 16 (b.toNat * 256 + c.toNat) = n) : decode code pc = .ok (.ifCond .le n, 3) := by
  refine dec_of (k := 3) ?_
  unfold Jvm.ClassFile.Decoder.instr
  rw [rd_bind (u1_at (n := 158) h0 rfl)]
  show (Jvm.ClassFile.Reader.s2 >>= fun x => pure (Jvm.ClassFile.Instr.ifCond .le x) : Jvm.ClassFile.Decoder Jvm.ClassFile.Instr) code (pc + 1) = _
  rw [rd_bind (s2_at h1 h2 hn)]
  rfl
theorem dk_159 {code : ByteArray} {pc : Nat} {n : Int} {b c : UInt8} (h0 : code.data.toList[pc]? = some 159) (h1 : code.data.toList[pc + 1]? = some b) (h2 : code.data.toList[pc + 1 + 1]? = some c) (hn : Jvm.ClassFile.Reader.signed 16 (b.toNat * 256 + c.toNat) = n) : decode code pc = .ok (.if_icmp .eq n, 3) := by
  refine dec_of (k := 3) ?_
  unfold Jvm.ClassFile.Decoder.instr
  rw [rd_bind (u1_at (n := 159) h0 rfl)]
  show (Jvm.ClassFile.Reader.s2 >>= fun x => pure (Jvm.ClassFile.Instr.if_icmp .eq x) : Jvm.ClassFile.Decoder Jvm.ClassFile.Instr) code (pc + 1) = _
  rw [rd_bind (s2_at h1 h2 hn)]
  rfl
theorem dk_160 {code : ByteArray} {pc : Nat} {n : Int} {b c : UInt8} (h0 : code.data.toList[pc]? = some 160) (h1 : code.data.toList[pc + 1]? = some b) (h2 : code.data.toList[pc + 1 + 1]? = some c) (hn : Jvm.ClassFile.Reader.signed 16 (b.toNat * 256 + c.toNat) = n) : decode code pc = .ok (.if_icmp .ne n, 3) := by
  refine dec_of (k := 3) ?_
  unfold Jvm.ClassFile.Decoder.instr
  rw [rd_bind (u1_at (n := 160) h0 rfl)]
  show (Jvm.ClassFile.Reader.s2 >>= fun x => pure (Jvm.ClassFile.Instr.if_icmp .ne x) : Jvm.ClassFile.Decoder Jvm.ClassFile.Instr) code (pc + 1) = _
  rw [rd_bind (s2_at h1 h2 hn)]
  rfl
theorem dk_161 {code : ByteArray} {pc : Nat} {n : Int} {b c : UInt8} (h0 : code.data.toList[pc]? = some 161) (h1 : code.data.toList[pc + 1]? = some b) (h2 : code.data.toList[pc + 1 + 1]? = some c) (hn : Jvm.ClassFile.Reader.signed 16 (b.toNat * 256 + c.toNat) = n) : decode code pc = .ok (.if_icmp .lt n, 3) := by
  refine dec_of (k := 3) ?_
  unfold Jvm.ClassFile.Decoder.instr
  rw [rd_bind (u1_at (n := 161) h0 rfl)]
  show (Jvm.ClassFile.Reader.s2 >>= fun x => pure (Jvm.ClassFile.Instr.if_icmp .lt x) : Jvm.ClassFile.Decoder Jvm.ClassFile.Instr) code (pc + 1) = _
  rw [rd_bind (s2_at h1 h2 hn)]
  rfl
theorem dk_162 {code : ByteArray} {pc : Nat} {n : Int} {b c : UInt8} (h0 : code.data.toList[pc]? = some 162) (h1 : code.data.toList[pc + 1]? = some b) (h2 : code.data.toList[pc + 1 + 1]? = some c) (hn : Jvm.ClassFile.Reader.signed 16 (b.toNat * 256 + c.toNat) = n) : decode code pc = .ok (.if_icmp .ge n, 3) := by
  refine dec_of (k := 3) ?_
  unfold Jvm.ClassFile.Decoder.instr
  rw [rd_bind (u1_at (n := 162) h0 rfl)]
  show (Jvm.ClassFile.Reader.s2 >>= fun x => pure (Jvm.ClassFile.Instr.if_icmp .ge x) : Jvm.ClassFile.Decoder Jvm.ClassFile.Instr) code (pc + 1) = _
  rw [rd_bind (s2_at h1 h2 hn)]
  rfl
theorem dk_163 {code : ByteArray} {pc : Nat} {n : Int} {b c : UInt8} (h0 : code.data.toList[pc]? = some 163) (h1 : code.data.toList[pc + 1]? = some b) (h2 : code.data.toList[pc + 1 + 1]? = some c) (hn : Jvm.ClassFile.Reader.signed 16 (b.toNat * 256 + c.toNat) = n) : decode code pc = .ok (.if_icmp .gt n, 3) := by
  refine dec_of (k := 3) ?_
  unfold Jvm.ClassFile.Decoder.instr
  rw [rd_bind (u1_at (n := 163) h0 rfl)]
  show (Jvm.ClassFile.Reader.s2 >>= fun x => pure (Jvm.ClassFile.Instr.if_icmp .gt x) : Jvm.ClassFile.Decoder Jvm.ClassFile.Instr) code (pc + 1) = _
  rw [rd_bind (s2_at h1 h2 hn)]
  rfl
theorem dk_164 {code : ByteArray} {pc : Nat} {n : Int} {b c : UInt8} (h0 : code.data.toList[pc]? = some 164) (h1 : code.data.toList[pc + 1]? = some b) (h2 : code.data.toList[pc + 1 + 1]? = some c) (hn : Jvm.ClassFile.Reader.signed 16 (b.toNat * 256 + c.toNat) = n) : decode code pc = .ok (.if_icmp .le n, 3) := by
  refine dec_of (k := 3) ?_
  unfold Jvm.ClassFile.Decoder.instr
  rw [rd_bind (u1_at (n := 164) h0 rfl)]
  show (Jvm.ClassFile.Reader.s2 >>= fun x => pure (Jvm.ClassFile.Instr.if_icmp .le x) : Jvm.ClassFile.Decoder Jvm.ClassFile.Instr) code (pc + 1) = _
  rw [rd_bind (s2_at h1 h2 hn)]
  rfl
theorem dk_172 {code : ByteArray} {pc : Nat} (h0 : code.data.toList[pc]? = some 172) : decode code pc = .ok (.ireturn, 1) := by
  refine dec_of (k := 1) ?_
  unfold Jvm.ClassFile.Decoder.instr
  rw [rd_bind (u1_at (n := 172) h0 rfl)]
  rfl
theorem dk_173 {code : ByteArray} {pc : Nat} (h0 : code.data.toList[pc]? = some 173) : decode code pc = .ok (.lreturn, 1) := by
  refine dec_of (k := 1) ?_
  unfold Jvm.ClassFile.Decoder.instr
  rw [rd_bind (u1_at (n := 173) h0 rfl)]
  rfl
theorem dk_176 {code : ByteArray} {pc : Nat} (h0 : code.data.toList[pc]? = some 176) : decode code pc = .ok (.areturn, 1) := by
  refine dec_of (k := 1) ?_
  unfold Jvm.ClassFile.Decoder.instr
  rw [rd_bind (u1_at (n := 176) h0 rfl)]
  rfl
theorem dk_177 {code : ByteArray} {pc : Nat} (h0 : code.data.toList[pc]? = some 177) : decode code pc = .ok (.return_, 1) := by
  refine dec_of (k := 1) ?_
  unfold Jvm.ClassFile.Decoder.instr
  rw [rd_bind (u1_at (n := 177) h0 rfl)]
  rfl
theorem dk_178 {code : ByteArray} {pc : Nat} {n : Nat} {b c : UInt8} (h0 : code.data.toList[pc]? = some 178) (h1 : code.data.toList[pc + 1]? = some b) (h2 : code.data.toList[pc + 1 + 1]? = some c) (hn : b.toNat * 256 + c.toNat = n) : decode code pc = .ok (.getstatic n, 3) := by
  refine dec_of (k := 3) ?_
  unfold Jvm.ClassFile.Decoder.instr
  rw [rd_bind (u1_at (n := 178) h0 rfl)]
  show (Jvm.ClassFile.Reader.u2 >>= fun x => pure (Jvm.ClassFile.Instr.getstatic x) : Jvm.ClassFile.Decoder Jvm.ClassFile.Instr) code (pc + 1) = _
  rw [rd_bind (u2_at (m := 0) h1 h2 hn)]
  rfl
theorem dk_179 {code : ByteArray} {pc : Nat} {n : Nat} {b c : UInt8} (h0 : code.data.toList[pc]? = some 179) (h1 : code.data.toList[pc + 1]? = some b) (h2 : code.data.toList[pc + 1 + 1]? = some c) (hn : b.toNat * 256 + c.toNat = n) : decode code pc = .ok (.putstatic n, 3) := by
  refine dec_of (k := 3) ?_
  unfold Jvm.ClassFile.Decoder.instr
  rw [rd_bind (u1_at (n := 179) h0 rfl)]
  show (Jvm.ClassFile.Reader.u2 >>= fun x => pure (Jvm.ClassFile.Instr.putstatic x) : Jvm.ClassFile.Decoder Jvm.ClassFile.Instr) code (pc + 1) = _
  rw [rd_bind (u2_at (m := 0) h1 h2 hn)]
  rfl
theorem dk_180 {code : ByteArray} {pc : Nat} {n : Nat} {b c : UInt8} (h0 : code.data.toList[pc]? = some 180) (h1 : code.data.toList[pc + 1]? = some b) (h2 : code.data.toList[pc + 1 + 1]? = some c) (hn : b.toNat * 256 + c.toNat = n) : decode code pc = .ok (.getfield n, 3) := by
  refine dec_of (k := 3) ?_
  unfold Jvm.ClassFile.Decoder.instr
  rw [rd_bind (u1_at (n := 180) h0 rfl)]
  show (Jvm.ClassFile.Reader.u2 >>= fun x => pure (Jvm.ClassFile.Instr.getfield x) : Jvm.ClassFile.Decoder Jvm.ClassFile.Instr) code (pc + 1) = _
  rw [rd_bind (u2_at (m := 0) h1 h2 hn)]
  rfl
theorem dk_181 {code : ByteArray} {pc : Nat} {n : Nat} {b c : UInt8} (h0 : code.data.toList[pc]? = some 181) (h1 : code.data.toList[pc + 1]? = some b) (h2 : code.data.toList[pc + 1 + 1]? = some c) (hn : b.toNat * 256 + c.toNat = n) : decode code pc = .ok (.putfield n, 3) := by
  refine dec_of (k := 3) ?_
  unfold Jvm.ClassFile.Decoder.instr
  rw [rd_bind (u1_at (n := 181) h0 rfl)]
  show (Jvm.ClassFile.Reader.u2 >>= fun x => pure (Jvm.ClassFile.Instr.putfield x) : Jvm.ClassFile.Decoder Jvm.ClassFile.Instr) code (pc + 1) = _
  rw [rd_bind (u2_at (m := 0) h1 h2 hn)]
  rfl
theorem dk_183 {code : ByteArray} {pc : Nat} {n : Nat} {b c : UInt8} (h0 : code.data.toList[pc]? = some 183) (h1 : code.data.toList[pc + 1]? = some b) (h2 : code.data.toList[pc + 1 + 1]? = some c) (hn : b.toNat * 256 + c.toNat = n) : decode code pc = .ok (.invokespecial n, 3) := by
  refine dec_of (k := 3) ?_
  unfold Jvm.ClassFile.Decoder.instr
  rw [rd_bind (u1_at (n := 183) h0 rfl)]
  show (Jvm.ClassFile.Reader.u2 >>= fun x => pure (Jvm.ClassFile.Instr.invokespecial x) : Jvm.ClassFile.Decoder Jvm.ClassFile.Instr) code (pc + 1) = _
  rw [rd_bind (u2_at (m := 0) h1 h2 hn)]
  rfl
theorem dk_184 {code : ByteArray} {pc : Nat} {n : Nat} {b c : UInt8} (h0 : code.data.toList[pc]? = some 184) (h1 : code.data.toList[pc + 1]? = some b) (h2 : code.data.toList[pc + 1 + 1]? = some c) (hn : b.toNat * 256 + c.toNat = n) : decode code pc = .ok (.invokestatic n, 3) := by
  refine dec_of (k := 3) ?_
  unfold Jvm.ClassFile.Decoder.instr
  rw [rd_bind (u1_at (n := 184) h0 rfl)]
  show (Jvm.ClassFile.Reader.u2 >>= fun x => pure (Jvm.ClassFile.Instr.invokestatic x) : Jvm.ClassFile.Decoder Jvm.ClassFile.Instr) code (pc + 1) = _
  rw [rd_bind (u2_at (m := 0) h1 h2 hn)]
  rfl
theorem dk_187 {code : ByteArray} {pc : Nat} {n : Nat} {b c : UInt8} (h0 : code.data.toList[pc]? = some 187) (h1 : code.data.toList[pc + 1]? = some b) (h2 : code.data.toList[pc + 1 + 1]? = some c) (hn : b.toNat * 256 + c.toNat = n) : decode code pc = .ok (.new n, 3) := by
  refine dec_of (k := 3) ?_
  unfold Jvm.ClassFile.Decoder.instr
  rw [rd_bind (u1_at (n := 187) h0 rfl)]
  show (Jvm.ClassFile.Reader.u2 >>= fun x => pure (Jvm.ClassFile.Instr.new x) : Jvm.ClassFile.Decoder Jvm.ClassFile.Instr) code (pc + 1) = _
  rw [rd_bind (u2_at (m := 0) h1 h2 hn)]
  rfl
theorem dk_189 {code : ByteArray} {pc : Nat} {n : Nat} {b c : UInt8} (h0 : code.data.toList[pc]? = some 189) (h1 : code.data.toList[pc + 1]? = some b) (h2 : code.data.toList[pc + 1 + 1]? = some c) (hn : b.toNat * 256 + c.toNat = n) : decode code pc = .ok (.anewarray n, 3) := by
  refine dec_of (k := 3) ?_
  unfold Jvm.ClassFile.Decoder.instr
  rw [rd_bind (u1_at (n := 189) h0 rfl)]
  show (Jvm.ClassFile.Reader.u2 >>= fun x => pure (Jvm.ClassFile.Instr.anewarray x) : Jvm.ClassFile.Decoder Jvm.ClassFile.Instr) code (pc + 1) = _
  rw [rd_bind (u2_at (m := 0) h1 h2 hn)]
  rfl
theorem dk_190 {code : ByteArray} {pc : Nat} (h0 : code.data.toList[pc]? = some 190) : decode code pc = .ok (.arraylength, 1) := by
  refine dec_of (k := 1) ?_
  unfold Jvm.ClassFile.Decoder.instr
  rw [rd_bind (u1_at (n := 190) h0 rfl)]
  rfl
theorem dk_191 {code : ByteArray} {pc : Nat} (h0 : code.data.toList[pc]? = some 191) : decode code pc = .ok (.athrow, 1) := by
  refine dec_of (k := 1) ?_
  unfold Jvm.ClassFile.Decoder.instr
  rw [rd_bind (u1_at (n := 191) h0 rfl)]
  rfl
theorem dk_192 {code : ByteArray} {pc : Nat} {n : Nat} {b c : UInt8} (h0 : code.data.toList[pc]? = some 192) (h1 : code.data.toList[pc + 1]? = some b) (h2 : code.data.toList[pc + 1 + 1]? = some c) (hn : b.toNat * 256 + c.toNat = n) : decode code pc = .ok (.checkcast n, 3) := by
  refine dec_of (k := 3) ?_
  unfold Jvm.ClassFile.Decoder.instr
  rw [rd_bind (u1_at (n := 192) h0 rfl)]
  show (Jvm.ClassFile.Reader.u2 >>= fun x => pure (Jvm.ClassFile.Instr.checkcast x) : Jvm.ClassFile.Decoder Jvm.ClassFile.Instr) code (pc + 1) = _
  rw [rd_bind (u2_at (m := 0) h1 h2 hn)]
  rfl
theorem dk_193 {code : ByteArray} {pc : Nat} {n : Nat} {b c : UInt8} (h0 : code.data.toList[pc]? = some 193) (h1 : code.data.toList[pc + 1]? = some b) (h2 : code.data.toList[pc + 1 + 1]? = some c) (hn : b.toNat * 256 + c.toNat = n) : decode code pc = .ok (.instanceof n, 3) := by
  refine dec_of (k := 3) ?_
  unfold Jvm.ClassFile.Decoder.instr
  rw [rd_bind (u1_at (n := 193) h0 rfl)]
  show (Jvm.ClassFile.Reader.u2 >>= fun x => pure (Jvm.ClassFile.Instr.instanceof x) : Jvm.ClassFile.Decoder Jvm.ClassFile.Instr) code (pc + 1) = _
  rw [rd_bind (u2_at (m := 0) h1 h2 hn)]
  rfl
theorem dk_198 {code : ByteArray} {pc : Nat} {n : Int} {b c : UInt8} (h0 : code.data.toList[pc]? = some 198) (h1 : code.data.toList[pc + 1]? = some b) (h2 : code.data.toList[pc + 1 + 1]? = some c) (hn : Jvm.ClassFile.Reader.signed 16 (b.toNat * 256 + c.toNat) = n) : decode code pc = .ok (.ifnull n, 3) := by
  refine dec_of (k := 3) ?_
  unfold Jvm.ClassFile.Decoder.instr
  rw [rd_bind (u1_at (n := 198) h0 rfl)]
  show (Jvm.ClassFile.Reader.s2 >>= fun x => pure (Jvm.ClassFile.Instr.ifnull x) : Jvm.ClassFile.Decoder Jvm.ClassFile.Instr) code (pc + 1) = _
  rw [rd_bind (s2_at h1 h2 hn)]
  rfl
theorem dk_199 {code : ByteArray} {pc : Nat} {n : Int} {b c : UInt8} (h0 : code.data.toList[pc]? = some 199) (h1 : code.data.toList[pc + 1]? = some b) (h2 : code.data.toList[pc + 1 + 1]? = some c) (hn : Jvm.ClassFile.Reader.signed 16 (b.toNat * 256 + c.toNat) = n) : decode code pc = .ok (.ifnonnull n, 3) := by
  refine dec_of (k := 3) ?_
  unfold Jvm.ClassFile.Decoder.instr
  rw [rd_bind (u1_at (n := 199) h0 rfl)]
  show (Jvm.ClassFile.Reader.s2 >>= fun x => pure (Jvm.ClassFile.Instr.ifnonnull x) : Jvm.ClassFile.Decoder Jvm.ClassFile.Instr) code (pc + 1) = _
  rw [rd_bind (s2_at h1 h2 hn)]
  rfl
theorem dk_132 {code : ByteArray} {pc n : Nat} {z : Int} {b c : UInt8} (h0 : code.data.toList[pc]? = some 132) (h1 : code.data.toList[pc + 1]? = some b) (h2 : code.data.toList[pc + 1 + 1]? = some c) (hn : b.toNat = n) (hz : Jvm.ClassFile.Reader.signed 8 c.toNat = z) : decode code pc = .ok (.iinc n z, 3) := by
  refine dec_of (k := 3) ?_
  unfold Jvm.ClassFile.Decoder.instr
  rw [rd_bind (u1_at (n := 132) h0 rfl)]
  show (Jvm.ClassFile.Reader.u1 >>= fun x => Jvm.ClassFile.Reader.s1 >>= fun y => pure (Jvm.ClassFile.Instr.iinc x y) : Jvm.ClassFile.Decoder Jvm.ClassFile.Instr) code (pc + 1) = _
  rw [rd_bind (u1_at h1 hn), rd_bind (s1_at h2 hz)]
  rfl
abbrev dD (c : ByteArray) (p : Nat) (i : Jvm.ClassFile.Instr) (n : Nat) : Prop := decode c p = .ok (i, n)
def kCo (c : Jvm.ClassFile.Cond) : Nat := match c with
  | .eq => 0
  | .ne => 1
  | .lt => 2
  | .ge => 3
  | .gt => 4
  | .le => 5
def kN (i : Jvm.ClassFile.Instr) : Nat := match i with
  | .aload_n k => 42 + k.val
  | .iload_n k => 26 + k.val
  | .lload_n k => 30 + k.val
  | .istore_n k => 59 + k.val
  | .lstore_n k => 63 + k.val
  | .astore_n k => 75 + k.val
  | .lconst k => 9 + k.val
  | .iconst z => if -1 ≤ z ∧ z ≤ 5 then (z + 3).toNat else 1000
  | .aconst_null => 1
  | .iaload => 46
  | .laload => 47
  | .aaload => 50
  | .baload => 51
  | .iastore => 79
  | .lastore => 80
  | .aastore => 83
  | .bastore => 84
  | .pop => 87
  | .pop2 => 88
  | .dup => 89
  | .dup_x1 => 90
  | .dup_x2 => 91
  | .dup2 => 92
  | .dup2_x1 => 93
  | .iadd => 96
  | .ladd => 97
  | .isub => 100
  | .lsub => 101
  | .imul => 104
  | .lmul => 105
  | .idiv => 108
  | .ldiv => 109
  | .irem => 112
  | .lrem => 113
  | .ineg => 116
  | .lneg => 117
  | .ishl => 120
  | .lshl => 121
  | .ishr => 122
  | .lshr => 123
  | .iushr => 124
  | .lushr => 125
  | .iand => 126
  | .land => 127
  | .ior => 128
  | .lor => 129
  | .ixor => 130
  | .lxor => 131
  | .i2l => 133
  | .l2i => 136
  | .i2b => 145
  | .i2c => 146
  | .i2s => 147
  | .lcmp => 148
  | .ireturn => 172
  | .lreturn => 173
  | .areturn => 176
  | .return_ => 177
  | .arraylength => 190
  | .athrow => 191
  | _ => 1000
def kU1 (i : Jvm.ClassFile.Instr) : Nat × Nat := match i with
  | .ldc v => (18, v)
  | .iload v => (21, v)
  | .lload v => (22, v)
  | .aload v => (25, v)
  | .istore v => (54, v)
  | .lstore v => (55, v)
  | .astore v => (58, v)
  | _ => (1000, 0)
def kS1 (i : Jvm.ClassFile.Instr) : Nat × Int := match i with
  | .bipush v => (16, v)
  | _ => (1000, 0)
def kU2 (i : Jvm.ClassFile.Instr) : Nat × Nat := match i with
  | .ldc_w v => (19, v)
  | .ldc2_w v => (20, v)
  | .getstatic v => (178, v)
  | .putstatic v => (179, v)
  | .getfield v => (180, v)
  | .putfield v => (181, v)
  | .invokevirtual v => (182, v)
  | .invokespecial v => (183, v)
  | .invokestatic v => (184, v)
  | .new v => (187, v)
  | .anewarray v => (189, v)
  | .checkcast v => (192, v)
  | .instanceof v => (193, v)
  | _ => (1000, 0)
def kS2 (i : Jvm.ClassFile.Instr) : Nat × Int := match i with
  | .sipush v => (17, v)
  | .goto v => (167, v)
  | .ifnull v => (198, v)
  | .ifnonnull v => (199, v)
  | .ifCond c v => (153 + kCo c, v)
  | .if_icmp c v => (159 + kCo c, v)
  | _ => (1000, 0)
def kII (i : Jvm.ClassFile.Instr) : Nat × Nat × Int := match i with
  | .iinc a v => (132, a, v)
  | _ => (1000, 0, 0)
theorem op1 {l : List UInt8} {p : Nat} {x : UInt8} (k : UInt8) (h : l[p]? = some x) (e : k.toNat = x.toNat) : l[p]? = some k := by
  rw [h, UInt8.toNat_inj.mp e]
theorem kN_ok {c : ByteArray} {p : Nat} {i : Jvm.ClassFile.Instr} {x : UInt8} (h : c.data.toList[p]? = some x) (e : kN i = x.toNat) : decode c p = .ok (i, 1) := by
  have hx := x.toNat_lt
  cases i with
  | aload_n k => exact match k, e with
    | ⟨0, _⟩, e => dk_42 (op1 42 h e)
    | ⟨1, _⟩, e => dk_43 (op1 43 h e)
    | ⟨2, _⟩, e => dk_44 (op1 44 h e)
    | ⟨3, _⟩, e => dk_45 (op1 45 h e)
  | iload_n k => exact match k, e with
    | ⟨0, _⟩, e => dk_26 (op1 26 h e)
    | ⟨1, _⟩, e => dk_27 (op1 27 h e)
    | ⟨2, _⟩, e => dk_28 (op1 28 h e)
    | ⟨3, _⟩, e => dk_29 (op1 29 h e)
  | lload_n k => exact match k, e with
    | ⟨0, _⟩, e => dk_30 (op1 30 h e)
    | ⟨1, _⟩, e => dk_31 (op1 31 h e)
    | ⟨2, _⟩, e => dk_32 (op1 32 h e)
    | ⟨3, _⟩, e => dk_33 (op1 33 h e)
  | istore_n k => exact match k, e with
    | ⟨0, _⟩, e => dk_59 (op1 59 h e)
    | ⟨1, _⟩, e => dk_60 (op1 60 h e)
    | ⟨2, _⟩, e => dk_61 (op1 61 h e)
    | ⟨3, _⟩, e => dk_62 (op1 62 h e)
  | lstore_n k => exact match k, e with
    | ⟨0, _⟩, e => dk_63 (op1 63 h e)
    | ⟨1, _⟩, e => dk_64 (op1 64 h e)
    | ⟨2, _⟩, e => dk_65 (op1 65 h e)
    | ⟨3, _⟩, e => dk_66 (op1 66 h e)
  | astore_n k => exact match k, e with
    | ⟨0, _⟩, e => dk_75 (op1 75 h e)
    | ⟨1, _⟩, e => dk_76 (op1 76 h e)
    | ⟨2, _⟩, e => dk_77 (op1 77 h e)
    | ⟨3, _⟩, e => dk_78 (op1 78 h e)
  | lconst k => exact match k, e with
    | ⟨0, _⟩, e => dk_9 (op1 9 h e)
    | ⟨1, _⟩, e => dk_10 (op1 10 h e)
  | iconst z =>
    have e : (if -1 ≤ z ∧ z ≤ 5 then (z + 3).toNat else 1000) = x.toNat := e
    split at e
    · rename_i hz
      rcases (show z = -1 ∨ z = 0 ∨ z = 1 ∨ z = 2 ∨ z = 3 ∨ z = 4 ∨ z = 5 by omega) with rfl | rfl | rfl | rfl | rfl | rfl | rfl
      · exact dk_2 (op1 2 h (by rw [← e]; rfl))
      · exact dk_3 (op1 3 h (by rw [← e]; rfl))
      · exact dk_4 (op1 4 h (by rw [← e]; rfl))
      · exact dk_5 (op1 5 h (by rw [← e]; rfl))
      · exact dk_6 (op1 6 h (by rw [← e]; rfl))
      · exact dk_7 (op1 7 h (by rw [← e]; rfl))
      · exact dk_8 (op1 8 h (by rw [← e]; rfl))
    · omega
  | aconst_null => exact dk_1 (op1 1 h e)
  | iaload => exact dk_46 (op1 46 h e)
  | laload => exact dk_47 (op1 47 h e)
  | aaload => exact dk_50 (op1 50 h e)
  | baload => exact dk_51 (op1 51 h e)
  | iastore => exact dk_79 (op1 79 h e)
  | lastore => exact dk_80 (op1 80 h e)
  | aastore => exact dk_83 (op1 83 h e)
  | bastore => exact dk_84 (op1 84 h e)
  | pop => exact dk_87 (op1 87 h e)
  | pop2 => exact dk_88 (op1 88 h e)
  | dup => exact dk_89 (op1 89 h e)
  | dup_x1 => exact dk_90 (op1 90 h e)
  | dup_x2 => exact dk_91 (op1 91 h e)
  | dup2 => exact dk_92 (op1 92 h e)
  | dup2_x1 => exact dk_93 (op1 93 h e)
  | iadd => exact dk_96 (op1 96 h e)
  | ladd => exact dk_97 (op1 97 h e)
  | isub => exact dk_100 (op1 100 h e)
  | lsub => exact dk_101 (op1 101 h e)
  | imul => exact dk_104 (op1 104 h e)
  | lmul => exact dk_105 (op1 105 h e)
  | idiv => exact dk_108 (op1 108 h e)
  | ldiv => exact dk_109 (op1 109 h e)
  | irem => exact dk_112 (op1 112 h e)
  | lrem => exact dk_113 (op1 113 h e)
  | ineg => exact dk_116 (op1 116 h e)
  | lneg => exact dk_117 (op1 117 h e)
  | ishl => exact dk_120 (op1 120 h e)
  | lshl => exact dk_121 (op1 121 h e)
  | ishr => exact dk_122 (op1 122 h e)
  | lshr => exact dk_123 (op1 123 h e)
  | iushr => exact dk_124 (op1 124 h e)
  | lushr => exact dk_125 (op1 125 h e)
  | iand => exact dk_126 (op1 126 h e)
  | land => exact dk_127 (op1 127 h e)
  | ior => exact dk_128 (op1 128 h e)
  | lor => exact dk_129 (op1 129 h e)
  | ixor => exact dk_130 (op1 130 h e)
  | lxor => exact dk_131 (op1 131 h e)
  | i2l => exact dk_133 (op1 133 h e)
  | l2i => exact dk_136 (op1 136 h e)
  | i2b => exact dk_145 (op1 145 h e)
  | i2c => exact dk_146 (op1 146 h e)
  | i2s => exact dk_147 (op1 147 h e)
  | lcmp => exact dk_148 (op1 148 h e)
  | ireturn => exact dk_172 (op1 172 h e)
  | lreturn => exact dk_173 (op1 173 h e)
  | areturn => exact dk_176 (op1 176 h e)
  | return_ => exact dk_177 (op1 177 h e)
  | arraylength => exact dk_190 (op1 190 h e)
  | athrow => exact dk_191 (op1 191 h e)
  | _ => exact absurd (show 1000 = x.toNat from e) (by omega)
theorem kU1_ok {c : ByteArray} {p : Nat} {i : Jvm.ClassFile.Instr} {x y : UInt8} (h : c.data.toList[p]? = some x) (h1 : c.data.toList[p + 1]? = some y) (e : (kU1 i).1 = x.toNat) (e2 : (kU1 i).2 = y.toNat) : decode c p = .ok (i, 2) := by
  have hx := x.toNat_lt
  cases i with
  | ldc v => exact dk_18 (op1 18 h e) h1 e2.symm
  | iload v => exact dk_21 (op1 21 h e) h1 e2.symm
  | lload v => exact dk_22 (op1 22 h e) h1 e2.symm
  | aload v => exact dk_25 (op1 25 h e) h1 e2.symm
  | istore v => exact dk_54 (op1 54 h e) h1 e2.symm
  | lstore v => exact dk_55 (op1 55 h e) h1 e2.symm
  | astore v => exact dk_58 (op1 58 h e) h1 e2.symm
  | _ => exact absurd (show 1000 = x.toNat from e) (by omega)
theorem kS1_ok {c : ByteArray} {p : Nat} {i : Jvm.ClassFile.Instr} {x y : UInt8} (h : c.data.toList[p]? = some x) (h1 : c.data.toList[p + 1]? = some y) (e : (kS1 i).1 = x.toNat) (e2 : Jvm.ClassFile.Reader.signed 8 y.toNat = (kS1 i).2) : decode c p = .ok (i, 2) := by
  have hx := x.toNat_lt
  cases i with
  | bipush v => exact dk_16 (op1 16 h e) h1 e2
  | _ => exact absurd (show 1000 = x.toNat from e) (by omega)
theorem kU2_ok {c : ByteArray} {p : Nat} {i : Jvm.ClassFile.Instr} {x y z : UInt8} (h : c.data.toList[p]? = some x) (h1 : c.data.toList[p + 1]? = some y) (h2 : c.data.toList[p + 1 + 1]? = some z) (e : (kU2 i).1 = x.toNat) (e2 : y.toNat * 256 + z.toNat = (kU2 i).2) : decode c p = .ok (i, 3) := by
  have hx := x.toNat_lt
  cases i with
  | ldc_w v => exact dk_19 (op1 19 h e) h1 h2 e2
  | ldc2_w v => exact dk_20 (op1 20 h e) h1 h2 e2
  | getstatic v => exact dk_178 (op1 178 h e) h1 h2 e2
  | putstatic v => exact dk_179 (op1 179 h e) h1 h2 e2
  | getfield v => exact dk_180 (op1 180 h e) h1 h2 e2
  | putfield v => exact dk_181 (op1 181 h e) h1 h2 e2
  | invokevirtual v => exact dk_182 (op1 182 h e) h1 h2 e2
  | invokespecial v => exact dk_183 (op1 183 h e) h1 h2 e2
  | invokestatic v => exact dk_184 (op1 184 h e) h1 h2 e2
  | new v => exact dk_187 (op1 187 h e) h1 h2 e2
  | anewarray v => exact dk_189 (op1 189 h e) h1 h2 e2
  | checkcast v => exact dk_192 (op1 192 h e) h1 h2 e2
  | instanceof v => exact dk_193 (op1 193 h e) h1 h2 e2
  | _ => exact absurd (show 1000 = x.toNat from e) (by omega)
theorem kS2_ok {c : ByteArray} {p : Nat} {i : Jvm.ClassFile.Instr} {x y z : UInt8} (h : c.data.toList[p]? = some x) (h1 : c.data.toList[p + 1]? = some y) (h2 : c.data.toList[p + 1 + 1]? = some z) (e : (kS2 i).1 = x.toNat) (e2 : Jvm.ClassFile.Reader.signed 16 (y.toNat * 256 + z.toNat) = (kS2 i).2) : decode c p = .ok (i, 3) := by
  have hx := x.toNat_lt
  cases i with
  | sipush v => exact dk_17 (op1 17 h e) h1 h2 e2
  | goto v => exact dk_167 (op1 167 h e) h1 h2 e2
  | ifnull v => exact dk_198 (op1 198 h e) h1 h2 e2
  | ifnonnull v => exact dk_199 (op1 199 h e) h1 h2 e2
  | ifCond c v => exact match c, e with
    | .eq, e => dk_153 (op1 153 h e) h1 h2 e2
    | .ne, e => dk_154 (op1 154 h e) h1 h2 e2
    | .lt, e => dk_155 (op1 155 h e) h1 h2 e2
    | .ge, e => dk_156 (op1 156 h e) h1 h2 e2
    | .gt, e => dk_157 (op1 157 h e) h1 h2 e2
    | .le, e => dk_158 (op1 158 h e) h1 h2 e2
  | if_icmp c v => exact match c, e with
    | .eq, e => dk_159 (op1 159 h e) h1 h2 e2
    | .ne, e => dk_160 (op1 160 h e) h1 h2 e2
    | .lt, e => dk_161 (op1 161 h e) h1 h2 e2
    | .ge, e => dk_162 (op1 162 h e) h1 h2 e2
    | .gt, e => dk_163 (op1 163 h e) h1 h2 e2
    | .le, e => dk_164 (op1 164 h e) h1 h2 e2
  | _ => exact absurd (show 1000 = x.toNat from e) (by omega)
theorem kII_ok {c : ByteArray} {p : Nat} {i : Jvm.ClassFile.Instr} {x y z : UInt8} (h : c.data.toList[p]? = some x) (h1 : c.data.toList[p + 1]? = some y) (h2 : c.data.toList[p + 1 + 1]? = some z) (e : (kII i).1 = x.toNat) (e2 : y.toNat = (kII i).2.1) (e3 : Jvm.ClassFile.Reader.signed 8 z.toNat = (kII i).2.2) : decode c p = .ok (i, 3) := by
  have hx := x.toNat_lt
  cases i with
  | iinc a v => exact dk_132 (op1 132 h e) h1 h2 e2 e3
  | _ => exact absurd (show 1000 = x.toNat from e) (by omega)
def dk_c1 (i : Jvm.ClassFile.Instr) (x : UInt8) : Bool := Nat.beq (kN i) x.toNat
def dk_c2 (i : Jvm.ClassFile.Instr) (x y : UInt8) : Bool := (Nat.beq (kU1 i).1 x.toNat && Nat.beq (kU1 i).2 y.toNat) || (Nat.beq (kS1 i).1 x.toNat && decide (Jvm.ClassFile.Reader.signed 8 y.toNat = (kS1 i).2))
def dk_c3 (i : Jvm.ClassFile.Instr) (x y z : UInt8) : Bool := (Nat.beq (kU2 i).1 x.toNat && Nat.beq (y.toNat * 256 + z.toNat) (kU2 i).2) || ((Nat.beq (kS2 i).1 x.toNat && decide (Jvm.ClassFile.Reader.signed 16 (y.toNat * 256 + z.toNat) = (kS2 i).2)) || (Nat.beq (kII i).1 x.toNat && (Nat.beq y.toNat (kII i).2.1 && decide (Jvm.ClassFile.Reader.signed 8 z.toNat = (kII i).2.2))))
def dk_ck (l : List UInt8) (i : Jvm.ClassFile.Instr) (n : Nat) : Bool := match n, l with
  | 1, x :: _ => dk_c1 i x
  | 2, x :: y :: _ => dk_c2 i x y
  | 3, x :: y :: z :: _ => dk_c3 i x y z
  | _, _ => false
theorem ck_ok {c : ByteArray} {p n : Nat} {i : Jvm.ClassFile.Instr} {l : List UInt8} (g : ∀ j : Nat, l[j]? = c.data.toList[p + j]?) (h : dk_ck l i n = true) : decode c p = .ok (i, n) := by
  unfold dk_ck at h
  split at h
  · exact kN_ok (g 0).symm (Nat.eq_of_beq_eq_true h)
  · rcases (Bool.or_eq_true _ _).mp h with h | h
    · have h := (Bool.and_eq_true _ _).mp h
      exact kU1_ok (g 0).symm (g 1).symm (Nat.eq_of_beq_eq_true h.1) (Nat.eq_of_beq_eq_true h.2)
    · have h := (Bool.and_eq_true _ _).mp h
      exact kS1_ok (g 0).symm (g 1).symm (Nat.eq_of_beq_eq_true h.1) (of_decide_eq_true h.2)
  · rcases (Bool.or_eq_true _ _).mp h with h | h
    · have h := (Bool.and_eq_true _ _).mp h
      exact kU2_ok (g 0).symm (g 1).symm (g 2).symm (Nat.eq_of_beq_eq_true h.1) (Nat.eq_of_beq_eq_true h.2)
    · rcases (Bool.or_eq_true _ _).mp h with h | h
      · have h := (Bool.and_eq_true _ _).mp h
        exact kS2_ok (g 0).symm (g 1).symm (g 2).symm (Nat.eq_of_beq_eq_true h.1) (of_decide_eq_true h.2)
      · have h := (Bool.and_eq_true _ _).mp h
        have h2 := (Bool.and_eq_true _ _).mp h.2
        exact kII_ok (g 0).symm (g 1).symm (g 2).symm (Nat.eq_of_beq_eq_true h.1) (Nat.eq_of_beq_eq_true h2.1) (of_decide_eq_true h2.2)
  · exact absurd h (by decide)
noncomputable def dk_dr (n : Nat) : List UInt8 → List UInt8 := Nat.rec (motive := fun _ => List UInt8 → List UInt8) (fun l => l) (fun _ ih l => List.casesOn (motive := fun _ => List UInt8) l [] (fun _ t => ih t)) n
theorem dk_dr_e : ∀ (n : Nat) (l : List UInt8), dk_dr n l = l.drop n := by
  intro n
  induction n with
  | zero => intro l; rfl
  | succ n ih =>
    intro l
    cases l with
    | nil => rfl
    | cons a t => exact ih t
noncomputable def dk_cl (L : List (Nat × Jvm.ClassFile.Instr × Nat)) : List UInt8 → Nat → Bool := List.rec (motive := fun _ => List UInt8 → Nat → Bool) (fun _ _ => true) (fun x _ ih l p => Nat.ble p x.1 && (dk_ck (dk_dr (x.1 - p) l) x.2.1 x.2.2 && ih (dk_dr (x.1 - p) l) x.1)) L
theorem cl_ok {c : ByteArray} : ∀ (L : List (Nat × Jvm.ClassFile.Instr × Nat)) (l : List UInt8) (p : Nat), l = c.data.toList.drop p → dk_cl L l p = true → ∀ x ∈ L, decode c x.1 = .ok (x.2.1, x.2.2) := by
  intro L
  induction L with
  | nil => intro l p _ _ x hx; exact absurd hx List.not_mem_nil
  | cons y r ih =>
    intro l p hl h x hx
    have h : (Nat.ble p y.1 && (dk_ck (dk_dr (y.1 - p) l) y.2.1 y.2.2 && dk_cl r (dk_dr (y.1 - p) l) y.1)) = true := h
    have h1 := (Bool.and_eq_true _ _).mp h
    have h2 := (Bool.and_eq_true _ _).mp h1.2
    have hp := Nat.le_of_ble_eq_true h1.1
    have e : dk_dr (y.1 - p) l = c.data.toList.drop y.1 := by
      rw [dk_dr_e, hl, List.drop_drop, show p + (y.1 - p) = y.1 by omega]
    rcases List.mem_cons.mp hx with rfl | q
    · refine ck_ok (l := dk_dr (x.1 - p) l) (fun j => ?_) h2.1
      rw [e, List.getElem?_drop]
    · exact ih _ _ e h2.2 x q
theorem dkA1 {c : ByteArray} {p0 n0 : Nat} {i0 : Jvm.ClassFile.Instr} (h : dk_cl [(p0, i0, n0)] c.data.toList 0 = true) : dD c p0 i0 n0 :=
  have hh := cl_ok (c := c) [(p0, i0, n0)] c.data.toList 0 rfl h
  hh (p0, i0, n0) (List.Mem.head _)
theorem dkA2 {c : ByteArray} {p0 n0 p1 n1 : Nat} {i0 i1 : Jvm.ClassFile.Instr} (h : dk_cl [(p0, i0, n0), (p1, i1, n1)] c.data.toList 0 = true) : (dD c p0 i0 n0 ∧ dD c p1 i1 n1) :=
  have hh := cl_ok (c := c) [(p0, i0, n0), (p1, i1, n1)] c.data.toList 0 rfl h
  ⟨hh (p0, i0, n0) (List.Mem.head _), hh (p1, i1, n1) (List.Mem.tail _ (List.Mem.head _))⟩
theorem dkA3 {c : ByteArray} {p0 n0 p1 n1 p2 n2 : Nat} {i0 i1 i2 : Jvm.ClassFile.Instr} (h : dk_cl [(p0, i0, n0), (p1, i1, n1), (p2, i2, n2)] c.data.toList 0 = true) : (dD c p0 i0 n0 ∧ (dD c p1 i1 n1 ∧ dD c p2 i2 n2)) :=
  have hh := cl_ok (c := c) [(p0, i0, n0), (p1, i1, n1), (p2, i2, n2)] c.data.toList 0 rfl h
  ⟨hh (p0, i0, n0) (List.Mem.head _), ⟨hh (p1, i1, n1) (List.Mem.tail _ (List.Mem.head _)), hh (p2, i2, n2) (List.Mem.tail _ (List.Mem.tail _ (List.Mem.head _)))⟩⟩
theorem dkA4 {c : ByteArray} {p0 n0 p1 n1 p2 n2 p3 n3 : Nat} {i0 i1 i2 i3 : Jvm.ClassFile.Instr} (h : dk_cl [(p0, i0, n0), (p1, i1, n1), (p2, i2, n2), (p3, i3, n3)] c.data.toList 0 = true) : ((dD c p0 i0 n0 ∧ dD c p1 i1 n1) ∧ (dD c p2 i2 n2 ∧ dD c p3 i3 n3)) :=
  have hh := cl_ok (c := c) [(p0, i0, n0), (p1, i1, n1), (p2, i2, n2), (p3, i3, n3)] c.data.toList 0 rfl h
  ⟨⟨hh (p0, i0, n0) (List.Mem.head _), hh (p1, i1, n1) (List.Mem.tail _ (List.Mem.head _))⟩, ⟨hh (p2, i2, n2) (List.Mem.tail _ (List.Mem.tail _ (List.Mem.head _))), hh (p3, i3, n3) (List.Mem.tail _ (List.Mem.tail _ (List.Mem.tail _ (List.Mem.head _))))⟩⟩
theorem dkA5 {c : ByteArray} {p0 n0 p1 n1 p2 n2 p3 n3 p4 n4 : Nat} {i0 i1 i2 i3 i4 : Jvm.ClassFile.Instr} (h : dk_cl [(p0, i0, n0), (p1, i1, n1), (p2, i2, n2), (p3, i3, n3), (p4, i4, n4)] c.data.toList 0 = true) : ((dD c p0 i0 n0 ∧ dD c p1 i1 n1) ∧ (dD c p2 i2 n2 ∧ (dD c p3 i3 n3 ∧ dD c p4 i4 n4))) :=
  have hh := cl_ok (c := c) [(p0, i0, n0), (p1, i1, n1), (p2, i2, n2), (p3, i3, n3), (p4, i4, n4)] c.data.toList 0 rfl h
  ⟨⟨hh (p0, i0, n0) (List.Mem.head _), hh (p1, i1, n1) (List.Mem.tail _ (List.Mem.head _))⟩, ⟨hh (p2, i2, n2) (List.Mem.tail _ (List.Mem.tail _ (List.Mem.head _))), ⟨hh (p3, i3, n3) (List.Mem.tail _ (List.Mem.tail _ (List.Mem.tail _ (List.Mem.head _)))), hh (p4, i4, n4) (List.Mem.tail _ (List.Mem.tail _ (List.Mem.tail _ (List.Mem.tail _ (List.Mem.head _)))))⟩⟩⟩
theorem dkA6 {c : ByteArray} {p0 n0 p1 n1 p2 n2 p3 n3 p4 n4 p5 n5 : Nat} {i0 i1 i2 i3 i4 i5 : Jvm.ClassFile.Instr} (h : dk_cl [(p0, i0, n0), (p1, i1, n1), (p2, i2, n2), (p3, i3, n3), (p4, i4, n4), (p5, i5, n5)] c.data.toList 0 = true) : ((dD c p0 i0 n0 ∧ (dD c p1 i1 n1 ∧ dD c p2 i2 n2)) ∧ (dD c p3 i3 n3 ∧ (dD c p4 i4 n4 ∧ dD c p5 i5 n5))) :=
  have hh := cl_ok (c := c) [(p0, i0, n0), (p1, i1, n1), (p2, i2, n2), (p3, i3, n3), (p4, i4, n4), (p5, i5, n5)] c.data.toList 0 rfl h
  ⟨⟨hh (p0, i0, n0) (List.Mem.head _), ⟨hh (p1, i1, n1) (List.Mem.tail _ (List.Mem.head _)), hh (p2, i2, n2) (List.Mem.tail _ (List.Mem.tail _ (List.Mem.head _)))⟩⟩, ⟨hh (p3, i3, n3) (List.Mem.tail _ (List.Mem.tail _ (List.Mem.tail _ (List.Mem.head _)))), ⟨hh (p4, i4, n4) (List.Mem.tail _ (List.Mem.tail _ (List.Mem.tail _ (List.Mem.tail _ (List.Mem.head _))))), hh (p5, i5, n5) (List.Mem.tail _ (List.Mem.tail _ (List.Mem.tail _ (List.Mem.tail _ (List.Mem.tail _ (List.Mem.head _))))))⟩⟩⟩
theorem dkA7 {c : ByteArray} {p0 n0 p1 n1 p2 n2 p3 n3 p4 n4 p5 n5 p6 n6 : Nat} {i0 i1 i2 i3 i4 i5 i6 : Jvm.ClassFile.Instr} (h : dk_cl [(p0, i0, n0), (p1, i1, n1), (p2, i2, n2), (p3, i3, n3), (p4, i4, n4), (p5, i5, n5), (p6, i6, n6)] c.data.toList 0 = true) : ((dD c p0 i0 n0 ∧ (dD c p1 i1 n1 ∧ dD c p2 i2 n2)) ∧ ((dD c p3 i3 n3 ∧ dD c p4 i4 n4) ∧ (dD c p5 i5 n5 ∧ dD c p6 i6 n6))) :=
  have hh := cl_ok (c := c) [(p0, i0, n0), (p1, i1, n1), (p2, i2, n2), (p3, i3, n3), (p4, i4, n4), (p5, i5, n5), (p6, i6, n6)] c.data.toList 0 rfl h
  ⟨⟨hh (p0, i0, n0) (List.Mem.head _), ⟨hh (p1, i1, n1) (List.Mem.tail _ (List.Mem.head _)), hh (p2, i2, n2) (List.Mem.tail _ (List.Mem.tail _ (List.Mem.head _)))⟩⟩, ⟨⟨hh (p3, i3, n3) (List.Mem.tail _ (List.Mem.tail _ (List.Mem.tail _ (List.Mem.head _)))), hh (p4, i4, n4) (List.Mem.tail _ (List.Mem.tail _ (List.Mem.tail _ (List.Mem.tail _ (List.Mem.head _)))))⟩, ⟨hh (p5, i5, n5) (List.Mem.tail _ (List.Mem.tail _ (List.Mem.tail _ (List.Mem.tail _ (List.Mem.tail _ (List.Mem.head _)))))), hh (p6, i6, n6) (List.Mem.tail _ (List.Mem.tail _ (List.Mem.tail _ (List.Mem.tail _ (List.Mem.tail _ (List.Mem.tail _ (List.Mem.head _)))))))⟩⟩⟩
theorem dkA8 {c : ByteArray} {p0 n0 p1 n1 p2 n2 p3 n3 p4 n4 p5 n5 p6 n6 p7 n7 : Nat} {i0 i1 i2 i3 i4 i5 i6 i7 : Jvm.ClassFile.Instr} (h : dk_cl [(p0, i0, n0), (p1, i1, n1), (p2, i2, n2), (p3, i3, n3), (p4, i4, n4), (p5, i5, n5), (p6, i6, n6), (p7, i7, n7)] c.data.toList 0 = true) : (((dD c p0 i0 n0 ∧ dD c p1 i1 n1) ∧ (dD c p2 i2 n2 ∧ dD c p3 i3 n3)) ∧ ((dD c p4 i4 n4 ∧ dD c p5 i5 n5) ∧ (dD c p6 i6 n6 ∧ dD c p7 i7 n7))) :=
  have hh := cl_ok (c := c) [(p0, i0, n0), (p1, i1, n1), (p2, i2, n2), (p3, i3, n3), (p4, i4, n4), (p5, i5, n5), (p6, i6, n6), (p7, i7, n7)] c.data.toList 0 rfl h
  ⟨⟨⟨hh (p0, i0, n0) (List.Mem.head _), hh (p1, i1, n1) (List.Mem.tail _ (List.Mem.head _))⟩, ⟨hh (p2, i2, n2) (List.Mem.tail _ (List.Mem.tail _ (List.Mem.head _))), hh (p3, i3, n3) (List.Mem.tail _ (List.Mem.tail _ (List.Mem.tail _ (List.Mem.head _))))⟩⟩, ⟨⟨hh (p4, i4, n4) (List.Mem.tail _ (List.Mem.tail _ (List.Mem.tail _ (List.Mem.tail _ (List.Mem.head _))))), hh (p5, i5, n5) (List.Mem.tail _ (List.Mem.tail _ (List.Mem.tail _ (List.Mem.tail _ (List.Mem.tail _ (List.Mem.head _))))))⟩, ⟨hh (p6, i6, n6) (List.Mem.tail _ (List.Mem.tail _ (List.Mem.tail _ (List.Mem.tail _ (List.Mem.tail _ (List.Mem.tail _ (List.Mem.head _))))))), hh (p7, i7, n7) (List.Mem.tail _ (List.Mem.tail _ (List.Mem.tail _ (List.Mem.tail _ (List.Mem.tail _ (List.Mem.tail _ (List.Mem.tail _ (List.Mem.head _))))))))⟩⟩⟩
theorem dkA9 {c : ByteArray} {p0 n0 p1 n1 p2 n2 p3 n3 p4 n4 p5 n5 p6 n6 p7 n7 p8 n8 : Nat} {i0 i1 i2 i3 i4 i5 i6 i7 i8 : Jvm.ClassFile.Instr} (h : dk_cl [(p0, i0, n0), (p1, i1, n1), (p2, i2, n2), (p3, i3, n3), (p4, i4, n4), (p5, i5, n5), (p6, i6, n6), (p7, i7, n7), (p8, i8, n8)] c.data.toList 0 = true) : (((dD c p0 i0 n0 ∧ dD c p1 i1 n1) ∧ (dD c p2 i2 n2 ∧ dD c p3 i3 n3)) ∧ ((dD c p4 i4 n4 ∧ dD c p5 i5 n5) ∧ (dD c p6 i6 n6 ∧ (dD c p7 i7 n7 ∧ dD c p8 i8 n8)))) :=
  have hh := cl_ok (c := c) [(p0, i0, n0), (p1, i1, n1), (p2, i2, n2), (p3, i3, n3), (p4, i4, n4), (p5, i5, n5), (p6, i6, n6), (p7, i7, n7), (p8, i8, n8)] c.data.toList 0 rfl h
  ⟨⟨⟨hh (p0, i0, n0) (List.Mem.head _), hh (p1, i1, n1) (List.Mem.tail _ (List.Mem.head _))⟩, ⟨hh (p2, i2, n2) (List.Mem.tail _ (List.Mem.tail _ (List.Mem.head _))), hh (p3, i3, n3) (List.Mem.tail _ (List.Mem.tail _ (List.Mem.tail _ (List.Mem.head _))))⟩⟩, ⟨⟨hh (p4, i4, n4) (List.Mem.tail _ (List.Mem.tail _ (List.Mem.tail _ (List.Mem.tail _ (List.Mem.head _))))), hh (p5, i5, n5) (List.Mem.tail _ (List.Mem.tail _ (List.Mem.tail _ (List.Mem.tail _ (List.Mem.tail _ (List.Mem.head _))))))⟩, ⟨hh (p6, i6, n6) (List.Mem.tail _ (List.Mem.tail _ (List.Mem.tail _ (List.Mem.tail _ (List.Mem.tail _ (List.Mem.tail _ (List.Mem.head _))))))), ⟨hh (p7, i7, n7) (List.Mem.tail _ (List.Mem.tail _ (List.Mem.tail _ (List.Mem.tail _ (List.Mem.tail _ (List.Mem.tail _ (List.Mem.tail _ (List.Mem.head _)))))))), hh (p8, i8, n8) (List.Mem.tail _ (List.Mem.tail _ (List.Mem.tail _ (List.Mem.tail _ (List.Mem.tail _ (List.Mem.tail _ (List.Mem.tail _ (List.Mem.tail _ (List.Mem.head _)))))))))⟩⟩⟩⟩
theorem dkA10 {c : ByteArray} {p0 n0 p1 n1 p2 n2 p3 n3 p4 n4 p5 n5 p6 n6 p7 n7 p8 n8 p9 n9 : Nat} {i0 i1 i2 i3 i4 i5 i6 i7 i8 i9 : Jvm.ClassFile.Instr} (h : dk_cl [(p0, i0, n0), (p1, i1, n1), (p2, i2, n2), (p3, i3, n3), (p4, i4, n4), (p5, i5, n5), (p6, i6, n6), (p7, i7, n7), (p8, i8, n8), (p9, i9, n9)] c.data.toList 0 = true) : (((dD c p0 i0 n0 ∧ dD c p1 i1 n1) ∧ (dD c p2 i2 n2 ∧ (dD c p3 i3 n3 ∧ dD c p4 i4 n4))) ∧ ((dD c p5 i5 n5 ∧ dD c p6 i6 n6) ∧ (dD c p7 i7 n7 ∧ (dD c p8 i8 n8 ∧ dD c p9 i9 n9)))) :=
  have hh := cl_ok (c := c) [(p0, i0, n0), (p1, i1, n1), (p2, i2, n2), (p3, i3, n3), (p4, i4, n4), (p5, i5, n5), (p6, i6, n6), (p7, i7, n7), (p8, i8, n8), (p9, i9, n9)] c.data.toList 0 rfl h
  ⟨⟨⟨hh (p0, i0, n0) (List.Mem.head _), hh (p1, i1, n1) (List.Mem.tail _ (List.Mem.head _))⟩, ⟨hh (p2, i2, n2) (List.Mem.tail _ (List.Mem.tail _ (List.Mem.head _))), ⟨hh (p3, i3, n3) (List.Mem.tail _ (List.Mem.tail _ (List.Mem.tail _ (List.Mem.head _)))), hh (p4, i4, n4) (List.Mem.tail _ (List.Mem.tail _ (List.Mem.tail _ (List.Mem.tail _ (List.Mem.head _)))))⟩⟩⟩, ⟨⟨hh (p5, i5, n5) (List.Mem.tail _ (List.Mem.tail _ (List.Mem.tail _ (List.Mem.tail _ (List.Mem.tail _ (List.Mem.head _)))))), hh (p6, i6, n6) (List.Mem.tail _ (List.Mem.tail _ (List.Mem.tail _ (List.Mem.tail _ (List.Mem.tail _ (List.Mem.tail _ (List.Mem.head _)))))))⟩, ⟨hh (p7, i7, n7) (List.Mem.tail _ (List.Mem.tail _ (List.Mem.tail _ (List.Mem.tail _ (List.Mem.tail _ (List.Mem.tail _ (List.Mem.tail _ (List.Mem.head _)))))))), ⟨hh (p8, i8, n8) (List.Mem.tail _ (List.Mem.tail _ (List.Mem.tail _ (List.Mem.tail _ (List.Mem.tail _ (List.Mem.tail _ (List.Mem.tail _ (List.Mem.tail _ (List.Mem.head _))))))))), hh (p9, i9, n9) (List.Mem.tail _ (List.Mem.tail _ (List.Mem.tail _ (List.Mem.tail _ (List.Mem.tail _ (List.Mem.tail _ (List.Mem.tail _ (List.Mem.tail _ (List.Mem.tail _ (List.Mem.head _))))))))))⟩⟩⟩⟩
theorem dkA11 {c : ByteArray} {p0 n0 p1 n1 p2 n2 p3 n3 p4 n4 p5 n5 p6 n6 p7 n7 p8 n8 p9 n9 p10 n10 : Nat} {i0 i1 i2 i3 i4 i5 i6 i7 i8 i9 i10 : Jvm.ClassFile.Instr} (h : dk_cl [(p0, i0, n0), (p1, i1, n1), (p2, i2, n2), (p3, i3, n3), (p4, i4, n4), (p5, i5, n5), (p6, i6, n6), (p7, i7, n7), (p8, i8, n8), (p9, i9, n9), (p10, i10, n10)] c.data.toList 0 = true) : (((dD c p0 i0 n0 ∧ dD c p1 i1 n1) ∧ (dD c p2 i2 n2 ∧ (dD c p3 i3 n3 ∧ dD c p4 i4 n4))) ∧ ((dD c p5 i5 n5 ∧ (dD c p6 i6 n6 ∧ dD c p7 i7 n7)) ∧ (dD c p8 i8 n8 ∧ (dD c p9 i9 n9 ∧ dD c p10 i10 n10)))) :=
  have hh := cl_ok (c := c) [(p0, i0, n0), (p1, i1, n1), (p2, i2, n2), (p3, i3, n3), (p4, i4, n4), (p5, i5, n5), (p6, i6, n6), (p7, i7, n7), (p8, i8, n8), (p9, i9, n9), (p10, i10, n10)] c.data.toList 0 rfl h
  ⟨⟨⟨hh (p0, i0, n0) (List.Mem.head _), hh (p1, i1, n1) (List.Mem.tail _ (List.Mem.head _))⟩, ⟨hh (p2, i2, n2) (List.Mem.tail _ (List.Mem.tail _ (List.Mem.head _))), ⟨hh (p3, i3, n3) (List.Mem.tail _ (List.Mem.tail _ (List.Mem.tail _ (List.Mem.head _)))), hh (p4, i4, n4) (List.Mem.tail _ (List.Mem.tail _ (List.Mem.tail _ (List.Mem.tail _ (List.Mem.head _)))))⟩⟩⟩, ⟨⟨hh (p5, i5, n5) (List.Mem.tail _ (List.Mem.tail _ (List.Mem.tail _ (List.Mem.tail _ (List.Mem.tail _ (List.Mem.head _)))))), ⟨hh (p6, i6, n6) (List.Mem.tail _ (List.Mem.tail _ (List.Mem.tail _ (List.Mem.tail _ (List.Mem.tail _ (List.Mem.tail _ (List.Mem.head _))))))), hh (p7, i7, n7) (List.Mem.tail _ (List.Mem.tail _ (List.Mem.tail _ (List.Mem.tail _ (List.Mem.tail _ (List.Mem.tail _ (List.Mem.tail _ (List.Mem.head _))))))))⟩⟩, ⟨hh (p8, i8, n8) (List.Mem.tail _ (List.Mem.tail _ (List.Mem.tail _ (List.Mem.tail _ (List.Mem.tail _ (List.Mem.tail _ (List.Mem.tail _ (List.Mem.tail _ (List.Mem.head _))))))))), ⟨hh (p9, i9, n9) (List.Mem.tail _ (List.Mem.tail _ (List.Mem.tail _ (List.Mem.tail _ (List.Mem.tail _ (List.Mem.tail _ (List.Mem.tail _ (List.Mem.tail _ (List.Mem.tail _ (List.Mem.head _)))))))))), hh (p10, i10, n10) (List.Mem.tail _ (List.Mem.tail _ (List.Mem.tail _ (List.Mem.tail _ (List.Mem.tail _ (List.Mem.tail _ (List.Mem.tail _ (List.Mem.tail _ (List.Mem.tail _ (List.Mem.tail _ (List.Mem.head _)))))))))))⟩⟩⟩⟩
theorem dkA12 {c : ByteArray} {p0 n0 p1 n1 p2 n2 p3 n3 p4 n4 p5 n5 p6 n6 p7 n7 p8 n8 p9 n9 p10 n10 p11 n11 : Nat} {i0 i1 i2 i3 i4 i5 i6 i7 i8 i9 i10 i11 : Jvm.ClassFile.Instr} (h : dk_cl [(p0, i0, n0), (p1, i1, n1), (p2, i2, n2), (p3, i3, n3), (p4, i4, n4), (p5, i5, n5), (p6, i6, n6), (p7, i7, n7), (p8, i8, n8), (p9, i9, n9), (p10, i10, n10), (p11, i11, n11)] c.data.toList 0 = true) : (((dD c p0 i0 n0 ∧ (dD c p1 i1 n1 ∧ dD c p2 i2 n2)) ∧ (dD c p3 i3 n3 ∧ (dD c p4 i4 n4 ∧ dD c p5 i5 n5))) ∧ ((dD c p6 i6 n6 ∧ (dD c p7 i7 n7 ∧ dD c p8 i8 n8)) ∧ (dD c p9 i9 n9 ∧ (dD c p10 i10 n10 ∧ dD c p11 i11 n11)))) :=
  have hh := cl_ok (c := c) [(p0, i0, n0), (p1, i1, n1), (p2, i2, n2), (p3, i3, n3), (p4, i4, n4), (p5, i5, n5), (p6, i6, n6), (p7, i7, n7), (p8, i8, n8), (p9, i9, n9), (p10, i10, n10), (p11, i11, n11)] c.data.toList 0 rfl h
  ⟨⟨⟨hh (p0, i0, n0) (List.Mem.head _), ⟨hh (p1, i1, n1) (List.Mem.tail _ (List.Mem.head _)), hh (p2, i2, n2) (List.Mem.tail _ (List.Mem.tail _ (List.Mem.head _)))⟩⟩, ⟨hh (p3, i3, n3) (List.Mem.tail _ (List.Mem.tail _ (List.Mem.tail _ (List.Mem.head _)))), ⟨hh (p4, i4, n4) (List.Mem.tail _ (List.Mem.tail _ (List.Mem.tail _ (List.Mem.tail _ (List.Mem.head _))))), hh (p5, i5, n5) (List.Mem.tail _ (List.Mem.tail _ (List.Mem.tail _ (List.Mem.tail _ (List.Mem.tail _ (List.Mem.head _))))))⟩⟩⟩, ⟨⟨hh (p6, i6, n6) (List.Mem.tail _ (List.Mem.tail _ (List.Mem.tail _ (List.Mem.tail _ (List.Mem.tail _ (List.Mem.tail _ (List.Mem.head _))))))), ⟨hh (p7, i7, n7) (List.Mem.tail _ (List.Mem.tail _ (List.Mem.tail _ (List.Mem.tail _ (List.Mem.tail _ (List.Mem.tail _ (List.Mem.tail _ (List.Mem.head _)))))))), hh (p8, i8, n8) (List.Mem.tail _ (List.Mem.tail _ (List.Mem.tail _ (List.Mem.tail _ (List.Mem.tail _ (List.Mem.tail _ (List.Mem.tail _ (List.Mem.tail _ (List.Mem.head _)))))))))⟩⟩, ⟨hh (p9, i9, n9) (List.Mem.tail _ (List.Mem.tail _ (List.Mem.tail _ (List.Mem.tail _ (List.Mem.tail _ (List.Mem.tail _ (List.Mem.tail _ (List.Mem.tail _ (List.Mem.tail _ (List.Mem.head _)))))))))), ⟨hh (p10, i10, n10) (List.Mem.tail _ (List.Mem.tail _ (List.Mem.tail _ (List.Mem.tail _ (List.Mem.tail _ (List.Mem.tail _ (List.Mem.tail _ (List.Mem.tail _ (List.Mem.tail _ (List.Mem.tail _ (List.Mem.head _))))))))))), hh (p11, i11, n11) (List.Mem.tail _ (List.Mem.tail _ (List.Mem.tail _ (List.Mem.tail _ (List.Mem.tail _ (List.Mem.tail _ (List.Mem.tail _ (List.Mem.tail _ (List.Mem.tail _ (List.Mem.tail _ (List.Mem.tail _ (List.Mem.head _))))))))))))⟩⟩⟩⟩
theorem dkA13 {c : ByteArray} {p0 n0 p1 n1 p2 n2 p3 n3 p4 n4 p5 n5 p6 n6 p7 n7 p8 n8 p9 n9 p10 n10 p11 n11 p12 n12 : Nat} {i0 i1 i2 i3 i4 i5 i6 i7 i8 i9 i10 i11 i12 : Jvm.ClassFile.Instr} (h : dk_cl [(p0, i0, n0), (p1, i1, n1), (p2, i2, n2), (p3, i3, n3), (p4, i4, n4), (p5, i5, n5), (p6, i6, n6), (p7, i7, n7), (p8, i8, n8), (p9, i9, n9), (p10, i10, n10), (p11, i11, n11), (p12, i12, n12)] c.data.toList 0 = true) : (((dD c p0 i0 n0 ∧ (dD c p1 i1 n1 ∧ dD c p2 i2 n2)) ∧ (dD c p3 i3 n3 ∧ (dD c p4 i4 n4 ∧ dD c p5 i5 n5))) ∧ ((dD c p6 i6 n6 ∧ (dD c p7 i7 n7 ∧ dD c p8 i8 n8)) ∧ ((dD c p9 i9 n9 ∧ dD c p10 i10 n10) ∧ (dD c p11 i11 n11 ∧ dD c p12 i12 n12)))) :=
  have hh := cl_ok (c := c) [(p0, i0, n0), (p1, i1, n1), (p2, i2, n2), (p3, i3, n3), (p4, i4, n4), (p5, i5, n5), (p6, i6, n6), (p7, i7, n7), (p8, i8, n8), (p9, i9, n9), (p10, i10, n10), (p11, i11, n11), (p12, i12, n12)] c.data.toList 0 rfl h
  ⟨⟨⟨hh (p0, i0, n0) (List.Mem.head _), ⟨hh (p1, i1, n1) (List.Mem.tail _ (List.Mem.head _)), hh (p2, i2, n2) (List.Mem.tail _ (List.Mem.tail _ (List.Mem.head _)))⟩⟩, ⟨hh (p3, i3, n3) (List.Mem.tail _ (List.Mem.tail _ (List.Mem.tail _ (List.Mem.head _)))), ⟨hh (p4, i4, n4) (List.Mem.tail _ (List.Mem.tail _ (List.Mem.tail _ (List.Mem.tail _ (List.Mem.head _))))), hh (p5, i5, n5) (List.Mem.tail _ (List.Mem.tail _ (List.Mem.tail _ (List.Mem.tail _ (List.Mem.tail _ (List.Mem.head _))))))⟩⟩⟩, ⟨⟨hh (p6, i6, n6) (List.Mem.tail _ (List.Mem.tail _ (List.Mem.tail _ (List.Mem.tail _ (List.Mem.tail _ (List.Mem.tail _ (List.Mem.head _))))))), ⟨hh (p7, i7, n7) (List.Mem.tail _ (List.Mem.tail _ (List.Mem.tail _ (List.Mem.tail _ (List.Mem.tail _ (List.Mem.tail _ (List.Mem.tail _ (List.Mem.head _)))))))), hh (p8, i8, n8) (List.Mem.tail _ (List.Mem.tail _ (List.Mem.tail _ (List.Mem.tail _ (List.Mem.tail _ (List.Mem.tail _ (List.Mem.tail _ (List.Mem.tail _ (List.Mem.head _)))))))))⟩⟩, ⟨⟨hh (p9, i9, n9) (List.Mem.tail _ (List.Mem.tail _ (List.Mem.tail _ (List.Mem.tail _ (List.Mem.tail _ (List.Mem.tail _ (List.Mem.tail _ (List.Mem.tail _ (List.Mem.tail _ (List.Mem.head _)))))))))), hh (p10, i10, n10) (List.Mem.tail _ (List.Mem.tail _ (List.Mem.tail _ (List.Mem.tail _ (List.Mem.tail _ (List.Mem.tail _ (List.Mem.tail _ (List.Mem.tail _ (List.Mem.tail _ (List.Mem.tail _ (List.Mem.head _)))))))))))⟩, ⟨hh (p11, i11, n11) (List.Mem.tail _ (List.Mem.tail _ (List.Mem.tail _ (List.Mem.tail _ (List.Mem.tail _ (List.Mem.tail _ (List.Mem.tail _ (List.Mem.tail _ (List.Mem.tail _ (List.Mem.tail _ (List.Mem.tail _ (List.Mem.head _)))))))))))), hh (p12, i12, n12) (List.Mem.tail _ (List.Mem.tail _ (List.Mem.tail _ (List.Mem.tail _ (List.Mem.tail _ (List.Mem.tail _ (List.Mem.tail _ (List.Mem.tail _ (List.Mem.tail _ (List.Mem.tail _ (List.Mem.tail _ (List.Mem.tail _ (List.Mem.head _)))))))))))))⟩⟩⟩⟩
theorem dkA14 {c : ByteArray} {p0 n0 p1 n1 p2 n2 p3 n3 p4 n4 p5 n5 p6 n6 p7 n7 p8 n8 p9 n9 p10 n10 p11 n11 p12 n12 p13 n13 : Nat} {i0 i1 i2 i3 i4 i5 i6 i7 i8 i9 i10 i11 i12 i13 : Jvm.ClassFile.Instr} (h : dk_cl [(p0, i0, n0), (p1, i1, n1), (p2, i2, n2), (p3, i3, n3), (p4, i4, n4), (p5, i5, n5), (p6, i6, n6), (p7, i7, n7), (p8, i8, n8), (p9, i9, n9), (p10, i10, n10), (p11, i11, n11), (p12, i12, n12), (p13, i13, n13)] c.data.toList 0 = true) : (((dD c p0 i0 n0 ∧ (dD c p1 i1 n1 ∧ dD c p2 i2 n2)) ∧ ((dD c p3 i3 n3 ∧ dD c p4 i4 n4) ∧ (dD c p5 i5 n5 ∧ dD c p6 i6 n6))) ∧ ((dD c p7 i7 n7 ∧ (dD c p8 i8 n8 ∧ dD c p9 i9 n9)) ∧ ((dD c p10 i10 n10 ∧ dD c p11 i11 n11) ∧ (dD c p12 i12 n12 ∧ dD c p13 i13 n13)))) :=
  have hh := cl_ok (c := c) [(p0, i0, n0), (p1, i1, n1), (p2, i2, n2), (p3, i3, n3), (p4, i4, n4), (p5, i5, n5), (p6, i6, n6), (p7, i7, n7), (p8, i8, n8), (p9, i9, n9), (p10, i10, n10), (p11, i11, n11), (p12, i12, n12), (p13, i13, n13)] c.data.toList 0 rfl h
  ⟨⟨⟨hh (p0, i0, n0) (List.Mem.head _), ⟨hh (p1, i1, n1) (List.Mem.tail _ (List.Mem.head _)), hh (p2, i2, n2) (List.Mem.tail _ (List.Mem.tail _ (List.Mem.head _)))⟩⟩, ⟨⟨hh (p3, i3, n3) (List.Mem.tail _ (List.Mem.tail _ (List.Mem.tail _ (List.Mem.head _)))), hh (p4, i4, n4) (List.Mem.tail _ (List.Mem.tail _ (List.Mem.tail _ (List.Mem.tail _ (List.Mem.head _)))))⟩, ⟨hh (p5, i5, n5) (List.Mem.tail _ (List.Mem.tail _ (List.Mem.tail _ (List.Mem.tail _ (List.Mem.tail _ (List.Mem.head _)))))), hh (p6, i6, n6) (List.Mem.tail _ (List.Mem.tail _ (List.Mem.tail _ (List.Mem.tail _ (List.Mem.tail _ (List.Mem.tail _ (List.Mem.head _)))))))⟩⟩⟩, ⟨⟨hh (p7, i7, n7) (List.Mem.tail _ (List.Mem.tail _ (List.Mem.tail _ (List.Mem.tail _ (List.Mem.tail _ (List.Mem.tail _ (List.Mem.tail _ (List.Mem.head _)))))))), ⟨hh (p8, i8, n8) (List.Mem.tail _ (List.Mem.tail _ (List.Mem.tail _ (List.Mem.tail _ (List.Mem.tail _ (List.Mem.tail _ (List.Mem.tail _ (List.Mem.tail _ (List.Mem.head _))))))))), hh (p9, i9, n9) (List.Mem.tail _ (List.Mem.tail _ (List.Mem.tail _ (List.Mem.tail _ (List.Mem.tail _ (List.Mem.tail _ (List.Mem.tail _ (List.Mem.tail _ (List.Mem.tail _ (List.Mem.head _))))))))))⟩⟩, ⟨⟨hh (p10, i10, n10) (List.Mem.tail _ (List.Mem.tail _ (List.Mem.tail _ (List.Mem.tail _ (List.Mem.tail _ (List.Mem.tail _ (List.Mem.tail _ (List.Mem.tail _ (List.Mem.tail _ (List.Mem.tail _ (List.Mem.head _))))))))))), hh (p11, i11, n11) (List.Mem.tail _ (List.Mem.tail _ (List.Mem.tail _ (List.Mem.tail _ (List.Mem.tail _ (List.Mem.tail _ (List.Mem.tail _ (List.Mem.tail _ (List.Mem.tail _ (List.Mem.tail _ (List.Mem.tail _ (List.Mem.head _))))))))))))⟩, ⟨hh (p12, i12, n12) (List.Mem.tail _ (List.Mem.tail _ (List.Mem.tail _ (List.Mem.tail _ (List.Mem.tail _ (List.Mem.tail _ (List.Mem.tail _ (List.Mem.tail _ (List.Mem.tail _ (List.Mem.tail _ (List.Mem.tail _ (List.Mem.tail _ (List.Mem.head _))))))))))))), hh (p13, i13, n13) (List.Mem.tail _ (List.Mem.tail _ (List.Mem.tail _ (List.Mem.tail _ (List.Mem.tail _ (List.Mem.tail _ (List.Mem.tail _ (List.Mem.tail _ (List.Mem.tail _ (List.Mem.tail _ (List.Mem.tail _ (List.Mem.tail _ (List.Mem.tail _ (List.Mem.head _))))))))))))))⟩⟩⟩⟩
theorem dkA15 {c : ByteArray} {p0 n0 p1 n1 p2 n2 p3 n3 p4 n4 p5 n5 p6 n6 p7 n7 p8 n8 p9 n9 p10 n10 p11 n11 p12 n12 p13 n13 p14 n14 : Nat} {i0 i1 i2 i3 i4 i5 i6 i7 i8 i9 i10 i11 i12 i13 i14 : Jvm.ClassFile.Instr} (h : dk_cl [(p0, i0, n0), (p1, i1, n1), (p2, i2, n2), (p3, i3, n3), (p4, i4, n4), (p5, i5, n5), (p6, i6, n6), (p7, i7, n7), (p8, i8, n8), (p9, i9, n9), (p10, i10, n10), (p11, i11, n11), (p12, i12, n12), (p13, i13, n13), (p14, i14, n14)] c.data.toList 0 = true) : (((dD c p0 i0 n0 ∧ (dD c p1 i1 n1 ∧ dD c p2 i2 n2)) ∧ ((dD c p3 i3 n3 ∧ dD c p4 i4 n4) ∧ (dD c p5 i5 n5 ∧ dD c p6 i6 n6))) ∧ (((dD c p7 i7 n7 ∧ dD c p8 i8 n8) ∧ (dD c p9 i9 n9 ∧ dD c p10 i10 n10)) ∧ ((dD c p11 i11 n11 ∧ dD c p12 i12 n12) ∧ (dD c p13 i13 n13 ∧ dD c p14 i14 n14)))) :=
  have hh := cl_ok (c := c) [(p0, i0, n0), (p1, i1, n1), (p2, i2, n2), (p3, i3, n3), (p4, i4, n4), (p5, i5, n5), (p6, i6, n6), (p7, i7, n7), (p8, i8, n8), (p9, i9, n9), (p10, i10, n10), (p11, i11, n11), (p12, i12, n12), (p13, i13, n13), (p14, i14, n14)] c.data.toList 0 rfl h
  ⟨⟨⟨hh (p0, i0, n0) (List.Mem.head _), ⟨hh (p1, i1, n1) (List.Mem.tail _ (List.Mem.head _)), hh (p2, i2, n2) (List.Mem.tail _ (List.Mem.tail _ (List.Mem.head _)))⟩⟩, ⟨⟨hh (p3, i3, n3) (List.Mem.tail _ (List.Mem.tail _ (List.Mem.tail _ (List.Mem.head _)))), hh (p4, i4, n4) (List.Mem.tail _ (List.Mem.tail _ (List.Mem.tail _ (List.Mem.tail _ (List.Mem.head _)))))⟩, ⟨hh (p5, i5, n5) (List.Mem.tail _ (List.Mem.tail _ (List.Mem.tail _ (List.Mem.tail _ (List.Mem.tail _ (List.Mem.head _)))))), hh (p6, i6, n6) (List.Mem.tail _ (List.Mem.tail _ (List.Mem.tail _ (List.Mem.tail _ (List.Mem.tail _ (List.Mem.tail _ (List.Mem.head _)))))))⟩⟩⟩, ⟨⟨⟨hh (p7, i7, n7) (List.Mem.tail _ (List.Mem.tail _ (List.Mem.tail _ (List.Mem.tail _ (List.Mem.tail _ (List.Mem.tail _ (List.Mem.tail _ (List.Mem.head _)))))))), hh (p8, i8, n8) (List.Mem.tail _ (List.Mem.tail _ (List.Mem.tail _ (List.Mem.tail _ (List.Mem.tail _ (List.Mem.tail _ (List.Mem.tail _ (List.Mem.tail _ (List.Mem.head _)))))))))⟩, ⟨hh (p9, i9, n9) (List.Mem.tail _ (List.Mem.tail _ (List.Mem.tail _ (List.Mem.tail _ (List.Mem.tail _ (List.Mem.tail _ (List.Mem.tail _ (List.Mem.tail _ (List.Mem.tail _ (List.Mem.head _)))))))))), hh (p10, i10, n10) (List.Mem.tail _ (List.Mem.tail _ (List.Mem.tail _ (List.Mem.tail _ (List.Mem.tail _ (List.Mem.tail _ (List.Mem.tail _ (List.Mem.tail _ (List.Mem.tail _ (List.Mem.tail _ (List.Mem.head _)))))))))))⟩⟩, ⟨⟨hh (p11, i11, n11) (List.Mem.tail _ (List.Mem.tail _ (List.Mem.tail _ (List.Mem.tail _ (List.Mem.tail _ (List.Mem.tail _ (List.Mem.tail _ (List.Mem.tail _ (List.Mem.tail _ (List.Mem.tail _ (List.Mem.tail _ (List.Mem.head _)))))))))))), hh (p12, i12, n12) (List.Mem.tail _ (List.Mem.tail _ (List.Mem.tail _ (List.Mem.tail _ (List.Mem.tail _ (List.Mem.tail _ (List.Mem.tail _ (List.Mem.tail _ (List.Mem.tail _ (List.Mem.tail _ (List.Mem.tail _ (List.Mem.tail _ (List.Mem.head _)))))))))))))⟩, ⟨hh (p13, i13, n13) (List.Mem.tail _ (List.Mem.tail _ (List.Mem.tail _ (List.Mem.tail _ (List.Mem.tail _ (List.Mem.tail _ (List.Mem.tail _ (List.Mem.tail _ (List.Mem.tail _ (List.Mem.tail _ (List.Mem.tail _ (List.Mem.tail _ (List.Mem.tail _ (List.Mem.head _)))))))))))))), hh (p14, i14, n14) (List.Mem.tail _ (List.Mem.tail _ (List.Mem.tail _ (List.Mem.tail _ (List.Mem.tail _ (List.Mem.tail _ (List.Mem.tail _ (List.Mem.tail _ (List.Mem.tail _ (List.Mem.tail _ (List.Mem.tail _ (List.Mem.tail _ (List.Mem.tail _ (List.Mem.tail _ (List.Mem.head _)))))))))))))))⟩⟩⟩⟩
theorem dkA16 {c : ByteArray} {p0 n0 p1 n1 p2 n2 p3 n3 p4 n4 p5 n5 p6 n6 p7 n7 p8 n8 p9 n9 p10 n10 p11 n11 p12 n12 p13 n13 p14 n14 p15 n15 : Nat} {i0 i1 i2 i3 i4 i5 i6 i7 i8 i9 i10 i11 i12 i13 i14 i15 : Jvm.ClassFile.Instr} (h : dk_cl [(p0, i0, n0), (p1, i1, n1), (p2, i2, n2), (p3, i3, n3), (p4, i4, n4), (p5, i5, n5), (p6, i6, n6), (p7, i7, n7), (p8, i8, n8), (p9, i9, n9), (p10, i10, n10), (p11, i11, n11), (p12, i12, n12), (p13, i13, n13), (p14, i14, n14), (p15, i15, n15)] c.data.toList 0 = true) : ((((dD c p0 i0 n0 ∧ dD c p1 i1 n1) ∧ (dD c p2 i2 n2 ∧ dD c p3 i3 n3)) ∧ ((dD c p4 i4 n4 ∧ dD c p5 i5 n5) ∧ (dD c p6 i6 n6 ∧ dD c p7 i7 n7))) ∧ (((dD c p8 i8 n8 ∧ dD c p9 i9 n9) ∧ (dD c p10 i10 n10 ∧ dD c p11 i11 n11)) ∧ ((dD c p12 i12 n12 ∧ dD c p13 i13 n13) ∧ (dD c p14 i14 n14 ∧ dD c p15 i15 n15)))) :=
  have hh := cl_ok (c := c) [(p0, i0, n0), (p1, i1, n1), (p2, i2, n2), (p3, i3, n3), (p4, i4, n4), (p5, i5, n5), (p6, i6, n6), (p7, i7, n7), (p8, i8, n8), (p9, i9, n9), (p10, i10, n10), (p11, i11, n11), (p12, i12, n12), (p13, i13, n13), (p14, i14, n14), (p15, i15, n15)] c.data.toList 0 rfl h
  ⟨⟨⟨⟨hh (p0, i0, n0) (List.Mem.head _), hh (p1, i1, n1) (List.Mem.tail _ (List.Mem.head _))⟩, ⟨hh (p2, i2, n2) (List.Mem.tail _ (List.Mem.tail _ (List.Mem.head _))), hh (p3, i3, n3) (List.Mem.tail _ (List.Mem.tail _ (List.Mem.tail _ (List.Mem.head _))))⟩⟩, ⟨⟨hh (p4, i4, n4) (List.Mem.tail _ (List.Mem.tail _ (List.Mem.tail _ (List.Mem.tail _ (List.Mem.head _))))), hh (p5, i5, n5) (List.Mem.tail _ (List.Mem.tail _ (List.Mem.tail _ (List.Mem.tail _ (List.Mem.tail _ (List.Mem.head _))))))⟩, ⟨hh (p6, i6, n6) (List.Mem.tail _ (List.Mem.tail _ (List.Mem.tail _ (List.Mem.tail _ (List.Mem.tail _ (List.Mem.tail _ (List.Mem.head _))))))), hh (p7, i7, n7) (List.Mem.tail _ (List.Mem.tail _ (List.Mem.tail _ (List.Mem.tail _ (List.Mem.tail _ (List.Mem.tail _ (List.Mem.tail _ (List.Mem.head _))))))))⟩⟩⟩, ⟨⟨⟨hh (p8, i8, n8) (List.Mem.tail _ (List.Mem.tail _ (List.Mem.tail _ (List.Mem.tail _ (List.Mem.tail _ (List.Mem.tail _ (List.Mem.tail _ (List.Mem.tail _ (List.Mem.head _))))))))), hh (p9, i9, n9) (List.Mem.tail _ (List.Mem.tail _ (List.Mem.tail _ (List.Mem.tail _ (List.Mem.tail _ (List.Mem.tail _ (List.Mem.tail _ (List.Mem.tail _ (List.Mem.tail _ (List.Mem.head _))))))))))⟩, ⟨hh (p10, i10, n10) (List.Mem.tail _ (List.Mem.tail _ (List.Mem.tail _ (List.Mem.tail _ (List.Mem.tail _ (List.Mem.tail _ (List.Mem.tail _ (List.Mem.tail _ (List.Mem.tail _ (List.Mem.tail _ (List.Mem.head _))))))))))), hh (p11, i11, n11) (List.Mem.tail _ (List.Mem.tail _ (List.Mem.tail _ (List.Mem.tail _ (List.Mem.tail _ (List.Mem.tail _ (List.Mem.tail _ (List.Mem.tail _ (List.Mem.tail _ (List.Mem.tail _ (List.Mem.tail _ (List.Mem.head _))))))))))))⟩⟩, ⟨⟨hh (p12, i12, n12) (List.Mem.tail _ (List.Mem.tail _ (List.Mem.tail _ (List.Mem.tail _ (List.Mem.tail _ (List.Mem.tail _ (List.Mem.tail _ (List.Mem.tail _ (List.Mem.tail _ (List.Mem.tail _ (List.Mem.tail _ (List.Mem.tail _ (List.Mem.head _))))))))))))), hh (p13, i13, n13) (List.Mem.tail _ (List.Mem.tail _ (List.Mem.tail _ (List.Mem.tail _ (List.Mem.tail _ (List.Mem.tail _ (List.Mem.tail _ (List.Mem.tail _ (List.Mem.tail _ (List.Mem.tail _ (List.Mem.tail _ (List.Mem.tail _ (List.Mem.tail _ (List.Mem.head _))))))))))))))⟩, ⟨hh (p14, i14, n14) (List.Mem.tail _ (List.Mem.tail _ (List.Mem.tail _ (List.Mem.tail _ (List.Mem.tail _ (List.Mem.tail _ (List.Mem.tail _ (List.Mem.tail _ (List.Mem.tail _ (List.Mem.tail _ (List.Mem.tail _ (List.Mem.tail _ (List.Mem.tail _ (List.Mem.tail _ (List.Mem.head _))))))))))))))), hh (p15, i15, n15) (List.Mem.tail _ (List.Mem.tail _ (List.Mem.tail _ (List.Mem.tail _ (List.Mem.tail _ (List.Mem.tail _ (List.Mem.tail _ (List.Mem.tail _ (List.Mem.tail _ (List.Mem.tail _ (List.Mem.tail _ (List.Mem.tail _ (List.Mem.tail _ (List.Mem.tail _ (List.Mem.tail _ (List.Mem.head _))))))))))))))))⟩⟩⟩⟩

set_option maxRecDepth 100000
set_option maxHeartbeats 4000000
def zle : Int → Int → Bool
  | .ofNat a, .ofNat b => Nat.ble a b
  | .negSucc _, .ofNat _ => true
  | .ofNat _, .negSucc _ => false
  | .negSucc a, .negSucc b => Nat.ble b a
theorem zle_e : ∀ {a b : Int}, zle a b = true → a ≤ b
  | .ofNat _, .ofNat _, h => Int.ofNat_le.mpr (Nat.le_of_ble_eq_true h)
  | .negSucc a, .ofNat b, _ => by
    show Int.negSucc a ≤ ((b : Nat) : Int)
    omega
  | .ofNat _, .negSucc _, h => Bool.noConfusion (show false = true from h)
  | .negSucc a, .negSucc b, h => by
    have h : b ≤ a := Nat.le_of_ble_eq_true h
    omega
theorem zle_o {a b c d : Int} (h : or (zle a b) (zle c d) = true) : a ≤ b ∨ c ≤ d := by
  rcases (Bool.or_eq_true _ _).mp h with h | h
  · exact Or.inl (zle_e h)
  · exact Or.inr (zle_e h)
theorem zle_l {a b : Int} (h : zle (a + 1) b = true) : a < b := zle_e h
theorem oin_e {n : Int} (h : and (zle (-2147483648) n) (zle n 2147483647) = true) : (Int32.ofInt n).toInt = n := by
  have h := (Bool.and_eq_true _ _).mp h
  have h1 := zle_e h.1
  have h2 := zle_e h.2
  have e : (2 : Int) ^ 31 = 2147483648 := by decide
  exact Int32.toInt_ofInt_of_le (by first | omega | (rw [e]; omega)) (by first | omega | (rw [e]; omega))
theorem nlt_e {a b : Nat} (h : Nat.ble (a + 1) b = true) : a < b := Nat.le_of_ble_eq_true h
def jpB (p : Nat) (o : Int) (t : Nat) : Bool := match o with
  | .ofNat k => Nat.beq (p + k) t
  | .negSucc k => Nat.beq (t + k + 1) p
theorem jp_e {p t : Nat} : ∀ {o : Int}, jpB p o t = true → (p : Int) + o = (t : Int)
  | .ofNat k, h => by
    have h : p + k = t := Nat.eq_of_beq_eq_true h
    show (p : Int) + ((k : Nat) : Int) = (t : Int)
    omega
  | .negSucc k, h => by
    have h : t + k + 1 = p := Nat.eq_of_beq_eq_true h
    omega
def qtB (a : Nat) : List Nat → Bool
  | [] => true
  | b :: l => match Nat.beq a b with
    | true => false
    | false => qtB a l
theorem qtB_e {a : Nat} : ∀ l : List Nat, qtB a l = true → a ∉ l := by
  intro l
  induction l with
  | nil => intro _; exact List.not_mem_nil
  | cons b l ih =>
    intro h q
    unfold qtB at h
    split at h
    · exact absurd h (by decide)
    · rename_i hb
      rcases List.mem_cons.mp q with q | q
      · rw [q, Nat.beq_refl] at hb
        exact absurd hb (by decide)
      · exact ih h q
def qvB : List Nat → Bool
  | [] => true
  | a :: l => and (qtB a l) (qvB l)
theorem vnd_e : ∀ {l : List Nat}, qvB l = true → va_nd l = true := by
  intro l
  induction l with
  | nil => intro _; rfl
  | cons a l ih =>
    intro h
    have h := (Bool.and_eq_true _ _).mp (show and (qtB a l) (qvB l) = true from h)
    rw [va_nd, ih h.2, decide_eq_true (qtB_e l h.1)]
    rfl
def qdB (c : List Nat) : List Nat → Bool
  | [] => true
  | a :: l => and (qtB a c) (qdB c l)
theorem dsj_e {c : List Nat} : ∀ {r : List Nat}, qdB c r = true → ∀ i ∈ r, i ∉ c := by
  intro r
  induction r with
  | nil => intro _ i hi; exact absurd hi List.not_mem_nil
  | cons a l ih =>
    intro h i hi
    have h := (Bool.and_eq_true _ _).mp (show and (qtB a c) (qdB c l) = true from h)
    rcases List.mem_cons.mp hi with q | q
    · rw [q]; exact qtB_e c h.1
    · exact ih h.2 i q
theorem bi_10 : (Int8.ofInt 10).toInt32 = 10 := by decide
theorem bi_100 : (Int8.ofInt 100).toInt32 = 100 := by decide
theorem bi_11 : (Int8.ofInt 11).toInt32 = 11 := by decide
theorem bi_114 : (Int8.ofInt 114).toInt32 = 114 := by decide
theorem bi_12 : (Int8.ofInt 12).toInt32 = 12 := by decide
theorem bi_122 : (Int8.ofInt 122).toInt32 = 122 := by decide
theorem bi_126 : (Int8.ofInt 126).toInt32 = 126 := by decide
theorem bi_13 : (Int8.ofInt 13).toInt32 = 13 := by decide
theorem bi_14 : (Int8.ofInt 14).toInt32 = 14 := by decide
theorem bi_15 : (Int8.ofInt 15).toInt32 = 15 := by decide
theorem bi_16 : (Int8.ofInt 16).toInt32 = 16 := by decide
theorem bi_17 : (Int8.ofInt 17).toInt32 = 17 := by decide
theorem bi_20 : (Int8.ofInt 20).toInt32 = 20 := by decide
theorem bi_24 : (Int8.ofInt 24).toInt32 = 24 := by decide
theorem bi_28 : (Int8.ofInt 28).toInt32 = 28 := by decide
theorem bi_32 : (Int8.ofInt 32).toInt32 = 32 := by decide
theorem bi_34 : (Int8.ofInt 34).toInt32 = 34 := by decide
theorem bi_40 : (Int8.ofInt 40).toInt32 = 40 := by decide
theorem bi_42 : (Int8.ofInt 42).toInt32 = 42 := by decide
theorem bi_43 : (Int8.ofInt 43).toInt32 = 43 := by decide
theorem bi_44 : (Int8.ofInt 44).toInt32 = 44 := by decide
theorem bi_48 : (Int8.ofInt 48).toInt32 = 48 := by decide
theorem bi_50 : (Int8.ofInt 50).toInt32 = 50 := by decide
theorem bi_57 : (Int8.ofInt 57).toInt32 = 57 := by decide
theorem bi_59 : (Int8.ofInt 59).toInt32 = 59 := by decide
theorem bi_6 : (Int8.ofInt 6).toInt32 = 6 := by decide
theorem bi_63 : (Int8.ofInt 63).toInt32 = 63 := by decide
theorem bi_7 : (Int8.ofInt 7).toInt32 = 7 := by decide
theorem bi_74 : (Int8.ofInt 74).toInt32 = 74 := by decide
theorem bi_75 : (Int8.ofInt 75).toInt32 = 75 := by decide
theorem bi_8 : (Int8.ofInt 8).toInt32 = 8 := by decide
theorem bi_80 : (Int8.ofInt 80).toInt32 = 80 := by decide
theorem bi_9 : (Int8.ofInt 9).toInt32 = 9 := by decide
theorem bi_96 : (Int8.ofInt 96).toInt32 = 96 := by decide
theorem bi_97 : (Int8.ofInt 97).toInt32 = 97 := by decide
theorem bi_99 : (Int8.ofInt 99).toInt32 = 99 := by decide
theorem bi_m2 : (Int8.ofInt (-2)).toInt32 = (-2) := by decide
theorem ic_0 : Int32.ofInt 0 = 0 := by decide
theorem ic_1 : Int32.ofInt 1 = 1 := by decide
theorem ic_2 : Int32.ofInt 2 = 2 := by decide
theorem ic_3 : Int32.ofInt 3 = 3 := by decide
theorem ic_4 : Int32.ofInt 4 = 4 := by decide
theorem ic_5 : Int32.ofInt 5 = 5 := by decide
theorem ic_m1 : Int32.ofInt (-1) = (-1) := by decide
theorem iq_0_0_0 : IV 0 0 0 := by decide
theorem iq_100000000_100000000_100000000 : IV 100000000 100000000 100000000 := by decide
theorem iq_10_10_10 : IV 10 10 10 := by decide
theorem iq_114_114_114 : IV 114 114 114 := by decide
theorem iq_11_11_11 : IV 11 11 11 := by decide
theorem iq_122_122_122 : IV 122 122 122 := by decide
theorem iq_126_126_126 : IV 126 126 126 := by decide
theorem iq_12_12_12 : IV 12 12 12 := by decide
theorem iq_134_134_134 : IV 134 134 134 := by decide
theorem iq_135_135_135 : IV 135 135 135 := by decide
theorem iq_136_136_136 : IV 136 136 136 := by decide
theorem iq_137_137_137 : IV 137 137 137 := by decide
theorem iq_14_14_14 : IV 14 14 14 := by decide
theorem iq_155_155_155 : IV 155 155 155 := by decide
theorem iq_15_15_15 : IV 15 15 15 := by decide
theorem iq_167_167_167 : IV 167 167 167 := by decide
theorem iq_16_16_16 : IV 16 16 16 := by decide
theorem iq_17_17_17 : IV 17 17 17 := by decide
theorem iq_183_183_183 : IV 183 183 183 := by decide
theorem iq_199_199_199 : IV 199 199 199 := by decide
theorem iq_1_1_1 : IV 1 1 1 := by decide
theorem iq_2000_2000_2000 : IV 2000 2000 2000 := by decide
theorem iq_20_20_20 : IV 20 20 20 := by decide
theorem iq_24_24_24 : IV 24 24 24 := by decide
theorem iq_255_255_255 : IV 255 255 255 := by decide
theorem iq_28_28_28 : IV 28 28 28 := by decide
theorem iq_2_2_2 : IV 2 2 2 := by decide
theorem iq_311_311_311 : IV 311 311 311 := by decide
theorem iq_32_32_32 : IV 32 32 32 := by decide
theorem iq_34_34_34 : IV 34 34 34 := by decide
theorem iq_3_3_3 : IV 3 3 3 := by decide
theorem iq_40_40_40 : IV 40 40 40 := by decide
theorem iq_44_44_44 : IV 44 44 44 := by decide
theorem iq_484_484_484 : IV 484 484 484 := by decide
theorem iq_48_48_48 : IV 48 48 48 := by decide
theorem iq_4_4_4 : IV 4 4 4 := by decide
theorem iq_50_50_50 : IV 50 50 50 := by decide
theorem iq_57_57_57 : IV 57 57 57 := by decide
theorem iq_59_59_59 : IV 59 59 59 := by decide
theorem iq_5_5_5 : IV 5 5 5 := by decide
theorem iq_65536_65536_65536 : IV 65536 65536 65536 := by decide
theorem iq_6_6_6 : IV 6 6 6 := by decide
theorem iq_7_7_7 : IV 7 7 7 := by decide
theorem iq_80_80_80 : IV 80 80 80 := by decide
theorem iq_8_8_8 : IV 8 8 8 := by decide
theorem iq_900_900_900 : IV 900 900 900 := by decide
theorem iq_96_96_96 : IV 96 96 96 := by decide
theorem iq_97_97_97 : IV 97 97 97 := by decide
theorem iq_9999_9999_9999 : IV 9999 9999 9999 := by decide
theorem iq_999_999_999 : IV 999 999 999 := by decide
theorem iq_99_99_99 : IV 99 99 99 := by decide
theorem iq_9_9_9 : IV 9 9 9 := by decide
theorem iq_m1_m1_m1 : IV (-1) (-1) (-1) := by decide
theorem iq_m2_m2_m2 : IV (-2) (-2) (-2) := by decide
theorem si_132 : (Int16.ofInt 132).toInt32 = 132 := by decide
theorem si_134 : (Int16.ofInt 134).toInt32 = 134 := by decide
theorem si_135 : (Int16.ofInt 135).toInt32 = 135 := by decide
theorem si_136 : (Int16.ofInt 136).toInt32 = 136 := by decide
theorem si_137 : (Int16.ofInt 137).toInt32 = 137 := by decide
theorem si_155 : (Int16.ofInt 155).toInt32 = 155 := by decide
theorem si_167 : (Int16.ofInt 167).toInt32 = 167 := by decide
theorem si_183 : (Int16.ofInt 183).toInt32 = 183 := by decide
theorem si_199 : (Int16.ofInt 199).toInt32 = 199 := by decide
theorem si_200 : (Int16.ofInt 200).toInt32 = 200 := by decide
theorem si_2000 : (Int16.ofInt 2000).toInt32 = 2000 := by decide
theorem si_255 : (Int16.ofInt 255).toInt32 = 255 := by decide
theorem si_256 : (Int16.ofInt 256).toInt32 = 256 := by decide
theorem si_311 : (Int16.ofInt 311).toInt32 = 311 := by decide
theorem si_484 : (Int16.ofInt 484).toInt32 = 484 := by decide
theorem si_528 : (Int16.ofInt 528).toInt32 = 528 := by decide
theorem si_900 : (Int16.ofInt 900).toInt32 = 900 := by decide
theorem si_999 : (Int16.ofInt 999).toInt32 = 999 := by decide
theorem si_9999 : (Int16.ofInt 9999).toInt32 = 9999 := by decide
theorem exI1 {u0 : Type} {A : u0 → Prop} (x0 : u0) (h : A x0) : ∃ x0, A x0 := ⟨x0, h⟩
theorem exI2 {u0 u1 : Type} {A : u0 → u1 → Prop} (x0 : u0) (x1 : u1) (h : A x0 x1) : ∃ x0 x1, A x0 x1 := ⟨x0, x1, h⟩
theorem exI4 {u0 u1 u2 u3 : Type} {A : u0 → u1 → u2 → u3 → Prop} (x0 : u0) (x1 : u1) (x2 : u2) (x3 : u3) (h : A x0 x1 x2 x3) : ∃ x0 x1 x2 x3, A x0 x1 x2 x3 := ⟨x0, x1, x2, x3, h⟩
theorem exI5 {u0 u1 u2 u3 u4 : Type} {A : u0 → u1 → u2 → u3 → u4 → Prop} (x0 : u0) (x1 : u1) (x2 : u2) (x3 : u3) (x4 : u4) (h : A x0 x1 x2 x3 x4) : ∃ x0 x1 x2 x3 x4, A x0 x1 x2 x3 x4 := ⟨x0, x1, x2, x3, x4, h⟩
theorem exI6 {u0 u1 u2 u3 u4 u5 : Type} {A : u0 → u1 → u2 → u3 → u4 → u5 → Prop} (x0 : u0) (x1 : u1) (x2 : u2) (x3 : u3) (x4 : u4) (x5 : u5) (h : A x0 x1 x2 x3 x4 x5) : ∃ x0 x1 x2 x3 x4 x5, A x0 x1 x2 x3 x4 x5 := ⟨x0, x1, x2, x3, x4, x5, h⟩
theorem exI7 {u0 u1 u2 u3 u4 u5 u6 : Type} {A : u0 → u1 → u2 → u3 → u4 → u5 → u6 → Prop} (x0 : u0) (x1 : u1) (x2 : u2) (x3 : u3) (x4 : u4) (x5 : u5) (x6 : u6) (h : A x0 x1 x2 x3 x4 x5 x6) : ∃ x0 x1 x2 x3 x4 x5 x6, A x0 x1 x2 x3 x4 x5 x6 := ⟨x0, x1, x2, x3, x4, x5, x6, h⟩
theorem exI8 {u0 u1 u2 u3 u4 u5 u6 u7 : Type} {A : u0 → u1 → u2 → u3 → u4 → u5 → u6 → u7 → Prop} (x0 : u0) (x1 : u1) (x2 : u2) (x3 : u3) (x4 : u4) (x5 : u5) (x6 : u6) (x7 : u7) (h : A x0 x1 x2 x3 x4 x5 x6 x7) : ∃ x0 x1 x2 x3 x4 x5 x6 x7, A x0 x1 x2 x3 x4 x5 x6 x7 := ⟨x0, x1, x2, x3, x4, x5, x6, x7, h⟩
theorem exI9 {u0 u1 u2 u3 u4 u5 u6 u7 u8 : Type} {A : u0 → u1 → u2 → u3 → u4 → u5 → u6 → u7 → u8 → Prop} (x0 : u0) (x1 : u1) (x2 : u2) (x3 : u3) (x4 : u4) (x5 : u5) (x6 : u6) (x7 : u7) (x8 : u8) (h : A x0 x1 x2 x3 x4 x5 x6 x7 x8) : ∃ x0 x1 x2 x3 x4 x5 x6 x7 x8, A x0 x1 x2 x3 x4 x5 x6 x7 x8 := ⟨x0, x1, x2, x3, x4, x5, x6, x7, x8, h⟩
theorem exI10 {u0 u1 u2 u3 u4 u5 u6 u7 u8 u9 : Type} {A : u0 → u1 → u2 → u3 → u4 → u5 → u6 → u7 → u8 → u9 → Prop} (x0 : u0) (x1 : u1) (x2 : u2) (x3 : u3) (x4 : u4) (x5 : u5) (x6 : u6) (x7 : u7) (x8 : u8) (x9 : u9) (h : A x0 x1 x2 x3 x4 x5 x6 x7 x8 x9) : ∃ x0 x1 x2 x3 x4 x5 x6 x7 x8 x9, A x0 x1 x2 x3 x4 x5 x6 x7 x8 x9 := ⟨x0, x1, x2, x3, x4, x5, x6, x7, x8, x9, h⟩
theorem exI11 {u0 u1 u2 u3 u4 u5 u6 u7 u8 u9 u10 : Type} {A : u0 → u1 → u2 → u3 → u4 → u5 → u6 → u7 → u8 → u9 → u10 → Prop} (x0 : u0) (x1 : u1) (x2 : u2) (x3 : u3) (x4 : u4) (x5 : u5) (x6 : u6) (x7 : u7) (x8 : u8) (x9 : u9) (x10 : u10) (h : A x0 x1 x2 x3 x4 x5 x6 x7 x8 x9 x10) : ∃ x0 x1 x2 x3 x4 x5 x6 x7 x8 x9 x10, A x0 x1 x2 x3 x4 x5 x6 x7 x8 x9 x10 := ⟨x0, x1, x2, x3, x4, x5, x6, x7, x8, x9, x10, h⟩
theorem exI12 {u0 u1 u2 u3 u4 u5 u6 u7 u8 u9 u10 u11 : Type} {A : u0 → u1 → u2 → u3 → u4 → u5 → u6 → u7 → u8 → u9 → u10 → u11 → Prop} (x0 : u0) (x1 : u1) (x2 : u2) (x3 : u3) (x4 : u4) (x5 : u5) (x6 : u6) (x7 : u7) (x8 : u8) (x9 : u9) (x10 : u10) (x11 : u11) (h : A x0 x1 x2 x3 x4 x5 x6 x7 x8 x9 x10 x11) : ∃ x0 x1 x2 x3 x4 x5 x6 x7 x8 x9 x10 x11, A x0 x1 x2 x3 x4 x5 x6 x7 x8 x9 x10 x11 := ⟨x0, x1, x2, x3, x4, x5, x6, x7, x8, x9, x10, x11, h⟩
