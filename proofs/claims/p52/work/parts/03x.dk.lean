set_option maxRecDepth 100000
set_option maxHeartbeats 4000000
/-! decoding by bytes -/
theorem rd_bind {α β : Type} {r : Jvm.ClassFile.Decoder α} {f : α → Jvm.ClassFile.Decoder β} {A : ByteArray} {p s : Nat} {a : α} (h : r A p = .ok (a, s)) : (r >>= f) A p = f a A s := by
  have e : (r >>= f) A p = (match r A p with | .error e => Except.error e | .ok (a, s) => f a A s) := by
    show (do let (a, s) ← r A p; f a A s : Except Jvm.ClassFile.DecodeError (β × Nat)) = _
    cases r A p <;> rfl
  rw [e, h]
theorem rd_map {α β : Type} {r : Jvm.ClassFile.Decoder α} (g : α → β) {A : ByteArray} {p s : Nat} {a : α} (h : r A p = .ok (a, s)) : (g <$> r) A p = .ok (g a, s) := by
  have e : (g <$> r) A p = (match r A p with | .error e => Except.error e | .ok (a, s) => .ok (g a, s)) := by
    show (do let (a, s) ← r A p; .ok (g a, s) : Except Jvm.ClassFile.DecodeError (β × Nat)) = _
    cases r A p <;> rfl
  rw [e, h]
theorem by_at {code : ByteArray} {pc : Nat} {b : UInt8} (h : code.data.toList[pc]? = some b) : ∃ hl : pc < code.size, code[pc] = b := by
  obtain ⟨hl, e⟩ := List.getElem?_eq_some_iff.mp h
  exact ⟨hl, e⟩
theorem u1_at {code : ByteArray} {pc n : Nat} {b : UInt8} (h : code.data.toList[pc]? = some b) (hn : b.toNat = n) : (Jvm.ClassFile.Reader.u1 : Jvm.ClassFile.Decoder Nat) code pc = .ok (n, pc + 1) := by
  obtain ⟨hl, e⟩ := by_at h
  subst hn
  have e2 : (Jvm.ClassFile.Reader.u1 : Jvm.ClassFile.Decoder Nat) code pc = (if h : pc < code.size then .ok (code[pc].toNat, pc + 1) else .error (Jvm.ClassFile.HasTruncated.truncated pc)) := by
    show (do if h : pc < code.size then do set (pc + 1); Pure.pure code[pc].toNat else MonadExcept.throw (Jvm.ClassFile.HasTruncated.truncated pc) : Jvm.ClassFile.Decoder Nat) code pc = _
    by_cases hi : pc < code.size
    · rw [dif_pos hi, dif_pos hi]; rfl
    · rw [dif_neg hi, dif_neg hi]; rfl
  rw [e2, dif_pos hl, e]
theorem u2_at {code : ByteArray} {pc n m : Nat} {b c : UInt8} (h : code.data.toList[pc]? = some b) (h2 : code.data.toList[pc + 1]? = some c) (hn : b.toNat * 256 + c.toNat = n) : (Jvm.ClassFile.Reader.u2 : Jvm.ClassFile.Decoder Nat) code pc = .ok (n, pc + 2) := by
  subst hn
  unfold Jvm.ClassFile.Reader.u2
  rw [rd_bind (u1_at h rfl), rd_bind (u1_at h2 rfl)]
  rfl
theorem dec_of {code : ByteArray} {pc k : Nat} {i : Jvm.ClassFile.Instr} (h : (Jvm.ClassFile.Decoder.instr pc) code pc = .ok (i, pc + k)) : decode code pc = .ok (i, k) := by
  have h2 : (Jvm.ClassFile.Decoder.instr pc).runAt code pc = .ok (i, pc + k) := h
  unfold Jvm.ClassFile.decode
  rw [h2]
  show Except.ok (i, pc + k - pc) = _
  rw [Nat.add_sub_cancel_left]
theorem dk_42 {code : ByteArray} {pc : Nat} (h : code.data.toList[pc]? = some 42) : decode code pc = .ok (.aload_n 0, 1) := by
  refine dec_of (k := 1) ?_
  unfold Jvm.ClassFile.Decoder.instr
  rw [rd_bind (u1_at (n := 42) h rfl)]
  rfl
theorem dk_43 {code : ByteArray} {pc : Nat} (h : code.data.toList[pc]? = some 43) : decode code pc = .ok (.aload_n 1, 1) := by
  refine dec_of (k := 1) ?_
  unfold Jvm.ClassFile.Decoder.instr
  rw [rd_bind (u1_at (n := 43) h rfl)]
  rfl
theorem dk_44 {code : ByteArray} {pc : Nat} (h : code.data.toList[pc]? = some 44) : decode code pc = .ok (.aload_n 2, 1) := by
  refine dec_of (k := 1) ?_
  unfold Jvm.ClassFile.Decoder.instr
  rw [rd_bind (u1_at (n := 44) h rfl)]
  rfl
theorem dk_45 {code : ByteArray} {pc : Nat} (h : code.data.toList[pc]? = some 45) : decode code pc = .ok (.aload_n 3, 1) := by
  refine dec_of (k := 1) ?_
  unfold Jvm.ClassFile.Decoder.instr
  rw [rd_bind (u1_at (n := 45) h rfl)]
  rfl
theorem dk_46 {code : ByteArray} {pc : Nat} (h : code.data.toList[pc]? = some 46) : decode code pc = .ok (.iaload, 1) := by
  refine dec_of (k := 1) ?_
  unfold Jvm.ClassFile.Decoder.instr
  rw [rd_bind (u1_at (n := 46) h rfl)]
  rfl
theorem dk_96 {code : ByteArray} {pc : Nat} (h : code.data.toList[pc]? = some 96) : decode code pc = .ok (.iadd, 1) := by
  refine dec_of (k := 1) ?_
  unfold Jvm.ClassFile.Decoder.instr
  rw [rd_bind (u1_at (n := 96) h rfl)]
  rfl
theorem dk_87 {code : ByteArray} {pc : Nat} (h : code.data.toList[pc]? = some 87) : decode code pc = .ok (.pop, 1) := by
  refine dec_of (k := 1) ?_
  unfold Jvm.ClassFile.Decoder.instr
  rw [rd_bind (u1_at (n := 87) h rfl)]
  rfl
theorem dk_88 {code : ByteArray} {pc : Nat} (h : code.data.toList[pc]? = some 88) : decode code pc = .ok (.pop2, 1) := by
  refine dec_of (k := 1) ?_
  unfold Jvm.ClassFile.Decoder.instr
  rw [rd_bind (u1_at (n := 88) h rfl)]
  rfl
theorem dk_3 {code : ByteArray} {pc : Nat} (h : code.data.toList[pc]? = some 3) : decode code pc = .ok (.iconst 0, 1) := by
  refine dec_of (k := 1) ?_
  unfold Jvm.ClassFile.Decoder.instr
  rw [rd_bind (u1_at (n := 3) h rfl)]
  rfl
theorem dk_4 {code : ByteArray} {pc : Nat} (h : code.data.toList[pc]? = some 4) : decode code pc = .ok (.iconst 1, 1) := by
  refine dec_of (k := 1) ?_
  unfold Jvm.ClassFile.Decoder.instr
  rw [rd_bind (u1_at (n := 4) h rfl)]
  rfl
theorem dk_5 {code : ByteArray} {pc : Nat} (h : code.data.toList[pc]? = some 5) : decode code pc = .ok (.iconst 2, 1) := by
  refine dec_of (k := 1) ?_
  unfold Jvm.ClassFile.Decoder.instr
  rw [rd_bind (u1_at (n := 5) h rfl)]
  rfl
theorem dk_6 {code : ByteArray} {pc : Nat} (h : code.data.toList[pc]? = some 6) : decode code pc = .ok (.iconst 3, 1) := by
  refine dec_of (k := 1) ?_
  unfold Jvm.ClassFile.Decoder.instr
  rw [rd_bind (u1_at (n := 6) h rfl)]
  rfl
theorem dk_7 {code : ByteArray} {pc : Nat} (h : code.data.toList[pc]? = some 7) : decode code pc = .ok (.iconst 4, 1) := by
  refine dec_of (k := 1) ?_
  unfold Jvm.ClassFile.Decoder.instr
  rw [rd_bind (u1_at (n := 7) h rfl)]
  rfl
theorem dk_8 {code : ByteArray} {pc : Nat} (h : code.data.toList[pc]? = some 8) : decode code pc = .ok (.iconst 5, 1) := by
  refine dec_of (k := 1) ?_
  unfold Jvm.ClassFile.Decoder.instr
  rw [rd_bind (u1_at (n := 8) h rfl)]
  rfl
theorem dk_21 {code : ByteArray} {pc n : Nat} {c : UInt8} (h : code.data.toList[pc]? = some 21) (h2 : code.data.toList[pc + 1]? = some c) (hn : c.toNat = n) : decode code pc = .ok (.iload n, 2) := by
  refine dec_of (k := 2) ?_
  unfold Jvm.ClassFile.Decoder.instr
  rw [rd_bind (u1_at (n := 21) h rfl)]
  show (Jvm.ClassFile.Reader.u1 >>= fun x => pure (Jvm.ClassFile.Instr.iload x) : Jvm.ClassFile.Decoder Jvm.ClassFile.Instr) code (pc + 1) = _
  rw [rd_bind (u1_at h2 hn)]
  rfl
theorem dk_182 {code : ByteArray} {pc n : Nat} {b c : UInt8} (h : code.data.toList[pc]? = some 182) (h2 : code.data.toList[pc + 1]? = some b) (h3 : code.data.toList[pc + 2]? = some c) (hn : b.toNat * 256 + c.toNat = n) : decode code pc = .ok (.invokevirtual n, 3) := by
  refine dec_of (k := 3) ?_
  unfold Jvm.ClassFile.Decoder.instr
  rw [rd_bind (u1_at (n := 182) h rfl)]
  show (Jvm.ClassFile.Reader.u2 >>= fun x => pure (Jvm.ClassFile.Instr.invokevirtual x) : Jvm.ClassFile.Decoder Jvm.ClassFile.Instr) code (pc + 1) = _
  rw [rd_bind (u2_at (m := 0) h2 h3 hn)]
  rfl
theorem dk_167 {code : ByteArray} {pc : Nat} {n : Int} {b c : UInt8} (h : code.data.toList[pc]? = some 167) (h2 : code.data.toList[pc + 1]? = some b) (h3 : code.data.toList[pc + 2]? = some c) (hn : Jvm.ClassFile.Reader.signed 16 (b.toNat * 256 + c.toNat) = n) : decode code pc = .ok (.goto n, 3) := by
  refine dec_of (k := 3) ?_
  unfold Jvm.ClassFile.Decoder.instr
  rw [rd_bind (u1_at (n := 167) h rfl)]
  show (Jvm.ClassFile.Reader.s2 >>= fun x => pure (Jvm.ClassFile.Instr.goto x) : Jvm.ClassFile.Decoder Jvm.ClassFile.Instr) code (pc + 1) = _
  rw [rd_bind (show (Jvm.ClassFile.Reader.s2 : Jvm.ClassFile.Decoder Int) code (pc + 1) = .ok (n, pc + 3) from (rd_map _ (u2_at (m := 0) h2 h3 rfl)).trans (by rw [hn]))]
  rfl
theorem s1_at {code : ByteArray} {pc : Nat} {n : Int} {b : UInt8} (h : code.data.toList[pc]? = some b) (hn : Jvm.ClassFile.Reader.signed 8 b.toNat = n) : (Jvm.ClassFile.Reader.s1 : Jvm.ClassFile.Decoder Int) code pc = .ok (n, pc + 1) := (rd_map _ (u1_at h rfl)).trans (by rw [hn])
theorem s2_at {code : ByteArray} {pc : Nat} {n : Int} {b c : UInt8} (h : code.data.toList[pc]? = some b) (h2 : code.data.toList[pc + 1]? = some c) (hn : Jvm.ClassFile.Reader.signed 16 (b.toNat * 256 + c.toNat) = n) : (Jvm.ClassFile.Reader.s2 : Jvm.ClassFile.Decoder Int) code pc = .ok (n, pc + 2) := (rd_map _ (u2_at (m := 0) h h2 rfl)).trans (by rw [hn])
theorem dk_1 {code : ByteArray} {pc : Nat} (h0 : code.data.toList[pc]? = some 1) : decode code pc = .ok (.aconst_null, 1) := by
  refine dec_of (k := 1) ?_
  unfold Jvm.ClassFile.Decoder.instr
  rw [rd_bind (u1_at (n := 1) h0 rfl)]
  rfl
theorem dk_2 {code : ByteArray} {pc : Nat} (h0 : code.data.toList[pc]? = some 2) : decode code pc = .ok ((.iconst (-1)), 1) := by
  refine dec_of (k := 1) ?_
  unfold Jvm.ClassFile.Decoder.instr
  rw [rd_bind (u1_at (n := 2) h0 rfl)]
  rfl
theorem dk_9 {code : ByteArray} {pc : Nat} (h0 : code.data.toList[pc]? = some 9) : decode code pc = .ok ((.lconst 0), 1) := by
  refine dec_of (k := 1) ?_
  unfold Jvm.ClassFile.Decoder.instr
  rw [rd_bind (u1_at (n := 9) h0 rfl)]
  rfl
theorem dk_10 {code : ByteArray} {pc : Nat} (h0 : code.data.toList[pc]? = some 10) : decode code pc = .ok ((.lconst 1), 1) := by
  refine dec_of (k := 1) ?_
  unfold Jvm.ClassFile.Decoder.instr
  rw [rd_bind (u1_at (n := 10) h0 rfl)]
  rfl
theorem dk_16 {code : ByteArray} {pc : Nat} {n : Int} {b : UInt8} (h0 : code.data.toList[pc]? = some 16) (h1 : code.data.toList[pc + 1]? = some b) (hn : Jvm.ClassFile.Reader.signed 8 b.toNat = n) : decode code pc = .ok (.bipush n, 2) := by
  refine dec_of (k := 2) ?_
  unfold Jvm.ClassFile.Decoder.instr
  rw [rd_bind (u1_at (n := 16) h0 rfl)]
  show (Jvm.ClassFile.Reader.s1 >>= fun x => pure (Jvm.ClassFile.Instr.bipush x) : Jvm.ClassFile.Decoder Jvm.ClassFile.Instr) code (pc + 1) = _
  rw [rd_bind (s1_at h1 hn)]
  rfl
theorem dk_17 {code : ByteArray} {pc : Nat} {n : Int} {b c : UInt8} (h0 : code.data.toList[pc]? = some 17) (h1 : code.data.toList[pc + 1]? = some b) (h2 : code.data.toList[pc + 1 + 1]? = some c) (hn : Jvm.ClassFile.Reader.signed 16 (b.toNat * 256 + c.toNat) = n) : decode code pc = .ok (.sipush n, 3) := by
  refine dec_of (k := 3) ?_
  unfold Jvm.ClassFile.Decoder.instr
  rw [rd_bind (u1_at (n := 17) h0 rfl)]
  show (Jvm.ClassFile.Reader.s2 >>= fun x => pure (Jvm.ClassFile.Instr.sipush x) : Jvm.ClassFile.Decoder Jvm.ClassFile.Instr) code (pc + 1) = _
  rw [rd_bind (s2_at h1 h2 hn)]
  rfl
theorem dk_18 {code : ByteArray} {pc : Nat} {n : Nat} {b : UInt8} (h0 : code.data.toList[pc]? = some 18) (h1 : code.data.toList[pc + 1]? = some b) (hn : b.toNat = n) : decode code pc = .ok (.ldc n, 2) := by
  refine dec_of (k := 2) ?_
  unfold Jvm.ClassFile.Decoder.instr
  rw [rd_bind (u1_at (n := 18) h0 rfl)]
  show (Jvm.ClassFile.Reader.u1 >>= fun x => pure (Jvm.ClassFile.Instr.ldc x) : Jvm.ClassFile.Decoder Jvm.ClassFile.Instr) code (pc + 1) = _
  rw [rd_bind (u1_at h1 hn)]
  rfl
theorem dk_19 {code : ByteArray} {pc : Nat} {n : Nat} {b c : UInt8} (h0 : code.data.toList[pc]? = some 19) (h1 : code.data.toList[pc + 1]? = some b) (h2 : code.data.toList[pc + 1 + 1]? = some c) (hn : b.toNat * 256 + c.toNat = n) : decode code pc = .ok (.ldc_w n, 3) := by
  refine dec_of (k := 3) ?_
  unfold Jvm.ClassFile.Decoder.instr
  rw [rd_bind (u1_at (n := 19) h0 rfl)]
  show (Jvm.ClassFile.Reader.u2 >>= fun x => pure (Jvm.ClassFile.Instr.ldc_w x) : Jvm.ClassFile.Decoder Jvm.ClassFile.Instr) code (pc + 1) = _
  rw [rd_bind (u2_at (m := 0) h1 h2 hn)]
  rfl
theorem dk_20 {code : ByteArray} {pc : Nat} {n : Nat} {b c : UInt8} (h0 : code.data.toList[pc]? = some 20) (h1 : code.data.toList[pc + 1]? = some b) (h2 : code.data.toList[pc + 1 + 1]? = some c) (hn : b.toNat * 256 + c.toNat = n) : decode code pc = .ok (.ldc2_w n, 3) := by
  refine dec_of (k := 3) ?_
  unfold Jvm.ClassFile.Decoder.instr
  rw [rd_bind (u1_at (n := 20) h0 rfl)]
  show (Jvm.ClassFile.Reader.u2 >>= fun x => pure (Jvm.ClassFile.Instr.ldc2_w x) : Jvm.ClassFile.Decoder Jvm.ClassFile.Instr) code (pc + 1) = _
  rw [rd_bind (u2_at (m := 0) h1 h2 hn)]
  rfl
theorem dk_22 {code : ByteArray} {pc : Nat} {n : Nat} {b : UInt8} (h0 : code.data.toList[pc]? = some 22) (h1 : code.data.toList[pc + 1]? = some b) (hn : b.toNat = n) : decode code pc = .ok (.lload n, 2) := by
  refine dec_of (k := 2) ?_
  unfold Jvm.ClassFile.Decoder.instr
  rw [rd_bind (u1_at (n := 22) h0 rfl)]
  show (Jvm.ClassFile.Reader.u1 >>= fun x => pure (Jvm.ClassFile.Instr.lload x) : Jvm.ClassFile.Decoder Jvm.ClassFile.Instr) code (pc + 1) = _
  rw [rd_bind (u1_at h1 hn)]
  rfl
theorem dk_26 {code : ByteArray} {pc : Nat} (h0 : code.data.toList[pc]? = some 26) : decode code pc = .ok ((.iload_n 0), 1) := by
  refine dec_of (k := 1) ?_
  unfold Jvm.ClassFile.Decoder.instr
  rw [rd_bind (u1_at (n := 26) h0 rfl)]
  rfl
theorem dk_27 {code : ByteArray} {pc : Nat} (h0 : code.data.toList[pc]? = some 27) : decode code pc = .ok ((.iload_n 1), 1) := by
  refine dec_of (k := 1) ?_
  unfold Jvm.ClassFile.Decoder.instr
  rw [rd_bind (u1_at (n := 27) h0 rfl)]
  rfl
theorem dk_28 {code : ByteArray} {pc : Nat} (h0 : code.data.toList[pc]? = some 28) : decode code pc = .ok ((.iload_n 2), 1) := by
  refine dec_of (k := 1) ?_
  unfold Jvm.ClassFile.Decoder.instr
  rw [rd_bind (u1_at (n := 28) h0 rfl)]
  rfl
theorem dk_29 {code : ByteArray} {pc : Nat} (h0 : code.data.toList[pc]? = some 29) : decode code pc = .ok ((.iload_n 3), 1) := by
  refine dec_of (k := 1) ?_
  unfold Jvm.ClassFile.Decoder.instr
  rw [rd_bind (u1_at (n := 29) h0 rfl)]
  rfl
theorem dk_30 {code : ByteArray} {pc : Nat} (h0 : code.data.toList[pc]? = some 30) : decode code pc = .ok ((.lload_n 0), 1) := by
  refine dec_of (k := 1) ?_
  unfold Jvm.ClassFile.Decoder.instr
  rw [rd_bind (u1_at (n := 30) h0 rfl)]
  rfl
theorem dk_31 {code : ByteArray} {pc : Nat} (h0 : code.data.toList[pc]? = some 31) : decode code pc = .ok ((.lload_n 1), 1) := by
  refine dec_of (k := 1) ?_
  unfold Jvm.ClassFile.Decoder.instr
  rw [rd_bind (u1_at (n := 31) h0 rfl)]
  rfl
theorem dk_32 {code : ByteArray} {pc : Nat} (h0 : code.data.toList[pc]? = some 32) : decode code pc = .ok ((.lload_n 2), 1) := by
  refine dec_of (k := 1) ?_
  unfold Jvm.ClassFile.Decoder.instr
  rw [rd_bind (u1_at (n := 32) h0 rfl)]
  rfl
theorem dk_33 {code : ByteArray} {pc : Nat} (h0 : code.data.toList[pc]? = some 33) : decode code pc = .ok ((.lload_n 3), 1) := by
  refine dec_of (k := 1) ?_
  unfold Jvm.ClassFile.Decoder.instr
  rw [rd_bind (u1_at (n := 33) h0 rfl)]
  rfl
theorem dk_47 {code : ByteArray} {pc : Nat} (h0 : code.data.toList[pc]? = some 47) : decode code pc = .ok (.laload, 1) := by
  refine dec_of (k := 1) ?_
  unfold Jvm.ClassFile.Decoder.instr
  rw [rd_bind (u1_at (n := 47) h0 rfl)]
  rfl
theorem dk_50 {code : ByteArray} {pc : Nat} (h0 : code.data.toList[pc]? = some 50) : decode code pc = .ok (.aaload, 1) := by
  refine dec_of (k := 1) ?_
  unfold Jvm.ClassFile.Decoder.instr
  rw [rd_bind (u1_at (n := 50) h0 rfl)]
  rfl
theorem dk_51 {code : ByteArray} {pc : Nat} (h0 : code.data.toList[pc]? = some 51) : decode code pc = .ok (.baload, 1) := by
  refine dec_of (k := 1) ?_
  unfold Jvm.ClassFile.Decoder.instr
  rw [rd_bind (u1_at (n := 51) h0 rfl)]
  rfl
theorem dk_54 {code : ByteArray} {pc : Nat} {n : Nat} {b : UInt8} (h0 : code.data.toList[pc]? = some 54) (h1 : code.data.toList[pc + 1]? = some b) (hn : b.toNat = n) : decode code pc = .ok (.istore n, 2) := by
  refine dec_of (k := 2) ?_
  unfold Jvm.ClassFile.Decoder.instr
  rw [rd_bind (u1_at (n := 54) h0 rfl)]
  show (Jvm.ClassFile.Reader.u1 >>= fun x => pure (Jvm.ClassFile.Instr.istore x) : Jvm.ClassFile.Decoder Jvm.ClassFile.Instr) code (pc + 1) = _
  rw [rd_bind (u1_at h1 hn)]
  rfl
theorem dk_55 {code : ByteArray} {pc : Nat} {n : Nat} {b : UInt8} (h0 : code.data.toList[pc]? = some 55) (h1 : code.data.toList[pc + 1]? = some b) (hn : b.toNat = n) : decode code pc = .ok (.lstore n, 2) := by
  refine dec_of (k := 2) ?_
  unfold Jvm.ClassFile.Decoder.instr
  rw [rd_bind (u1_at (n := 55) h0 rfl)]
  show (Jvm.ClassFile.Reader.u1 >>= fun x => pure (Jvm.ClassFile.Instr.lstore x) : Jvm.ClassFile.Decoder Jvm.ClassFile.Instr) code (pc + 1) = _
  rw [rd_bind (u1_at h1 hn)]
  rfl
theorem dk_59 {code : ByteArray} {pc : Nat} (h0 : code.data.toList[pc]? = some 59) : decode code pc = .ok ((.istore_n 0), 1) := by
  refine dec_of (k := 1) ?_
  unfold Jvm.ClassFile.Decoder.instr
  rw [rd_bind (u1_at (n := 59) h0 rfl)]
  rfl
theorem dk_60 {code : ByteArray} {pc : Nat} (h0 : code.data.toList[pc]? = some 60) : decode code pc = .ok ((.istore_n 1), 1) := by
  refine dec_of (k := 1) ?_
  unfold Jvm.ClassFile.Decoder.instr
  rw [rd_bind (u1_at (n := 60) h0 rfl)]
  rfl
theorem dk_61 {code : ByteArray} {pc : Nat} (h0 : code.data.toList[pc]? = some 61) : decode code pc = .ok ((.istore_n 2), 1) := by
  refine dec_of (k := 1) ?_
  unfold Jvm.ClassFile.Decoder.instr
  rw [rd_bind (u1_at (n := 61) h0 rfl)]
  rfl
theorem dk_62 {code : ByteArray} {pc : Nat} (h0 : code.data.toList[pc]? = some 62) : decode code pc = .ok ((.istore_n 3), 1) := by
  refine dec_of (k := 1) ?_
  unfold Jvm.ClassFile.Decoder.instr
  rw [rd_bind (u1_at (n := 62) h0 rfl)]
  rfl
theorem dk_64 {code : ByteArray} {pc : Nat} (h0 : code.data.toList[pc]? = some 64) : decode code pc = .ok ((.lstore_n 1), 1) := by
  refine dec_of (k := 1) ?_
  unfold Jvm.ClassFile.Decoder.instr
  rw [rd_bind (u1_at (n := 64) h0 rfl)]
  rfl
theorem dk_65 {code : ByteArray} {pc : Nat} (h0 : code.data.toList[pc]? = some 65) : decode code pc = .ok ((.lstore_n 2), 1) := by
  refine dec_of (k := 1) ?_
  unfold Jvm.ClassFile.Decoder.instr
  rw [rd_bind (u1_at (n := 65) h0 rfl)]
  rfl
theorem dk_66 {code : ByteArray} {pc : Nat} (h0 : code.data.toList[pc]? = some 66) : decode code pc = .ok ((.lstore_n 3), 1) := by
  refine dec_of (k := 1) ?_
  unfold Jvm.ClassFile.Decoder.instr
  rw [rd_bind (u1_at (n := 66) h0 rfl)]
  rfl
theorem dk_76 {code : ByteArray} {pc : Nat} (h0 : code.data.toList[pc]? = some 76) : decode code pc = .ok ((.astore_n 1), 1) := by
  refine dec_of (k := 1) ?_
  unfold Jvm.ClassFile.Decoder.instr
  rw [rd_bind (u1_at (n := 76) h0 rfl)]
  rfl
theorem dk_77 {code : ByteArray} {pc : Nat} (h0 : code.data.toList[pc]? = some 77) : decode code pc = .ok ((.astore_n 2), 1) := by
  refine dec_of (k := 1) ?_
  unfold Jvm.ClassFile.Decoder.instr
  rw [rd_bind (u1_at (n := 77) h0 rfl)]
  rfl
theorem dk_79 {code : ByteArray} {pc : Nat} (h0 : code.data.toList[pc]? = some 79) : decode code pc = .ok (.iastore, 1) := by
  refine dec_of (k := 1) ?_
  unfold Jvm.ClassFile.Decoder.instr
  rw [rd_bind (u1_at (n := 79) h0 rfl)]
  rfl
theorem dk_80 {code : ByteArray} {pc : Nat} (h0 : code.data.toList[pc]? = some 80) : decode code pc = .ok (.lastore, 1) := by
  refine dec_of (k := 1) ?_
  unfold Jvm.ClassFile.Decoder.instr
  rw [rd_bind (u1_at (n := 80) h0 rfl)]
  rfl
theorem dk_83 {code : ByteArray} {pc : Nat} (h0 : code.data.toList[pc]? = some 83) : decode code pc = .ok (.aastore, 1) := by
  refine dec_of (k := 1) ?_
  unfold Jvm.ClassFile.Decoder.instr
  rw [rd_bind (u1_at (n := 83) h0 rfl)]
  rfl
theorem dk_84 {code : ByteArray} {pc : Nat} (h0 : code.data.toList[pc]? = some 84) : decode code pc = .ok (.bastore, 1) := by
  refine dec_of (k := 1) ?_
  unfold Jvm.ClassFile.Decoder.instr
  rw [rd_bind (u1_at (n := 84) h0 rfl)]
  rfl
theorem dk_89 {code : ByteArray} {pc : Nat} (h0 : code.data.toList[pc]? = some 89) : decode code pc = .ok (.dup, 1) := by
  refine dec_of (k := 1) ?_
  unfold Jvm.ClassFile.Decoder.instr
  rw [rd_bind (u1_at (n := 89) h0 rfl)]
  rfl
theorem dk_92 {code : ByteArray} {pc : Nat} (h0 : code.data.toList[pc]? = some 92) : decode code pc = .ok (.dup2, 1) := by
  refine dec_of (k := 1) ?_
  unfold Jvm.ClassFile.Decoder.instr
  rw [rd_bind (u1_at (n := 92) h0 rfl)]
  rfl
theorem dk_97 {code : ByteArray} {pc : Nat} (h0 : code.data.toList[pc]? = some 97) : decode code pc = .ok (.ladd, 1) := by
  refine dec_of (k := 1) ?_
  unfold Jvm.ClassFile.Decoder.instr
  rw [rd_bind (u1_at (n := 97) h0 rfl)]
  rfl
theorem dk_100 {code : ByteArray} {pc : Nat} (h0 : code.data.toList[pc]? = some 100) : decode code pc = .ok (.isub, 1) := by
  refine dec_of (k := 1) ?_
  unfold Jvm.ClassFile.Decoder.instr
  rw [rd_bind (u1_at (n := 100) h0 rfl)]
  rfl
theorem dk_101 {code : ByteArray} {pc : Nat} (h0 : code.data.toList[pc]? = some 101) : decode code pc = .ok (.lsub, 1) := by
  refine dec_of (k := 1) ?_
  unfold Jvm.ClassFile.Decoder.instr
  rw [rd_bind (u1_at (n := 101) h0 rfl)]
  rfl
theorem dk_104 {code : ByteArray} {pc : Nat} (h0 : code.data.toList[pc]? = some 104) : decode code pc = .ok (.imul, 1) := by
  refine dec_of (k := 1) ?_
  unfold Jvm.ClassFile.Decoder.instr
  rw [rd_bind (u1_at (n := 104) h0 rfl)]
  rfl
theorem dk_105 {code : ByteArray} {pc : Nat} (h0 : code.data.toList[pc]? = some 105) : decode code pc = .ok (.lmul, 1) := by
  refine dec_of (k := 1) ?_
  unfold Jvm.ClassFile.Decoder.instr
  rw [rd_bind (u1_at (n := 105) h0 rfl)]
  rfl
theorem dk_109 {code : ByteArray} {pc : Nat} (h0 : code.data.toList[pc]? = some 109) : decode code pc = .ok (.ldiv, 1) := by
  refine dec_of (k := 1) ?_
  unfold Jvm.ClassFile.Decoder.instr
  rw [rd_bind (u1_at (n := 109) h0 rfl)]
  rfl
theorem dk_112 {code : ByteArray} {pc : Nat} (h0 : code.data.toList[pc]? = some 112) : decode code pc = .ok (.irem, 1) := by
  refine dec_of (k := 1) ?_
  unfold Jvm.ClassFile.Decoder.instr
  rw [rd_bind (u1_at (n := 112) h0 rfl)]
  rfl
theorem dk_113 {code : ByteArray} {pc : Nat} (h0 : code.data.toList[pc]? = some 113) : decode code pc = .ok (.lrem, 1) := by
  refine dec_of (k := 1) ?_
  unfold Jvm.ClassFile.Decoder.instr
  rw [rd_bind (u1_at (n := 113) h0 rfl)]
  rfl
theorem dk_116 {code : ByteArray} {pc : Nat} (h0 : code.data.toList[pc]? = some 116) : decode code pc = .ok (.ineg, 1) := by
  refine dec_of (k := 1) ?_
  unfold Jvm.ClassFile.Decoder.instr
  rw [rd_bind (u1_at (n := 116) h0 rfl)]
  rfl
theorem dk_120 {code : ByteArray} {pc : Nat} (h0 : code.data.toList[pc]? = some 120) : decode code pc = .ok (.ishl, 1) := by
  refine dec_of (k := 1) ?_
  unfold Jvm.ClassFile.Decoder.instr
  rw [rd_bind (u1_at (n := 120) h0 rfl)]
  rfl
theorem dk_121 {code : ByteArray} {pc : Nat} (h0 : code.data.toList[pc]? = some 121) : decode code pc = .ok (.lshl, 1) := by
  refine dec_of (k := 1) ?_
  unfold Jvm.ClassFile.Decoder.instr
  rw [rd_bind (u1_at (n := 121) h0 rfl)]
  rfl
theorem dk_122 {code : ByteArray} {pc : Nat} (h0 : code.data.toList[pc]? = some 122) : decode code pc = .ok (.ishr, 1) := by
  refine dec_of (k := 1) ?_
  unfold Jvm.ClassFile.Decoder.instr
  rw [rd_bind (u1_at (n := 122) h0 rfl)]
  rfl
theorem dk_124 {code : ByteArray} {pc : Nat} (h0 : code.data.toList[pc]? = some 124) : decode code pc = .ok (.iushr, 1) := by
  refine dec_of (k := 1) ?_
  unfold Jvm.ClassFile.Decoder.instr
  rw [rd_bind (u1_at (n := 124) h0 rfl)]
  rfl
theorem dk_126 {code : ByteArray} {pc : Nat} (h0 : code.data.toList[pc]? = some 126) : decode code pc = .ok (.iand, 1) := by
  refine dec_of (k := 1) ?_
  unfold Jvm.ClassFile.Decoder.instr
  rw [rd_bind (u1_at (n := 126) h0 rfl)]
  rfl
theorem dk_128 {code : ByteArray} {pc : Nat} (h0 : code.data.toList[pc]? = some 128) : decode code pc = .ok (.ior, 1) := by
  refine dec_of (k := 1) ?_
  unfold Jvm.ClassFile.Decoder.instr
  rw [rd_bind (u1_at (n := 128) h0 rfl)]
  rfl
theorem dk_130 {code : ByteArray} {pc : Nat} (h0 : code.data.toList[pc]? = some 130) : decode code pc = .ok (.ixor, 1) := by
  refine dec_of (k := 1) ?_
  unfold Jvm.ClassFile.Decoder.instr
  rw [rd_bind (u1_at (n := 130) h0 rfl)]
  rfl
theorem dk_133 {code : ByteArray} {pc : Nat} (h0 : code.data.toList[pc]? = some 133) : decode code pc = .ok (.i2l, 1) := by
  refine dec_of (k := 1) ?_
  unfold Jvm.ClassFile.Decoder.instr
  rw [rd_bind (u1_at (n := 133) h0 rfl)]
  rfl
theorem dk_145 {code : ByteArray} {pc : Nat} (h0 : code.data.toList[pc]? = some 145) : decode code pc = .ok (.i2b, 1) := by
  refine dec_of (k := 1) ?_
  unfold Jvm.ClassFile.Decoder.instr
  rw [rd_bind (u1_at (n := 145) h0 rfl)]
  rfl
theorem dk_146 {code : ByteArray} {pc : Nat} (h0 : code.data.toList[pc]? = some 146) : decode code pc = .ok (.i2c, 1) := by
  refine dec_of (k := 1) ?_
  unfold Jvm.ClassFile.Decoder.instr
  rw [rd_bind (u1_at (n := 146) h0 rfl)]
  rfl
theorem dk_148 {code : ByteArray} {pc : Nat} (h0 : code.data.toList[pc]? = some 148) : decode code pc = .ok (.lcmp, 1) := by
  refine dec_of (k := 1) ?_
  unfold Jvm.ClassFile.Decoder.instr
  rw [rd_bind (u1_at (n := 148) h0 rfl)]
  rfl
theorem dk_153 {code : ByteArray} {pc : Nat} {n : Int} {b c : UInt8} (h0 : code.data.toList[pc]? = some 153) (h1 : code.data.toList[pc + 1]? = some b) (h2 : code.data.toList[pc + 1 + 1]? = some c) (hn : Jvm.ClassFile.Reader.signed 16 (b.toNat * 256 + c.toNat) = n) : decode code pc = .ok (.ifCond .eq n, 3) := by
  refine dec_of (k := 3) ?_
  unfold Jvm.ClassFile.Decoder.instr
  rw [rd_bind (u1_at (n := 153) h0 rfl)]
  show (Jvm.ClassFile.Reader.s2 >>= fun x => pure (Jvm.ClassFile.Instr.ifCond .eq x) : Jvm.ClassFile.Decoder Jvm.ClassFile.Instr) code (pc + 1) = _
  rw [rd_bind (s2_at h1 h2 hn)]
  rfl
theorem dk_154 {code : ByteArray} {pc : Nat} {n : Int} {b c : UInt8} (h0 : code.data.toList[pc]? = some 154) (h1 : code.data.toList[pc + 1]? = some b) (h2 : code.data.toList[pc + 1 + 1]? = some c) (hn : Jvm.ClassFile.Reader.signed 16 (b.toNat * 256 + c.toNat) = n) : decode code pc = .ok (.ifCond .ne n, 3) := by
  refine dec_of (k := 3) ?_
  unfold Jvm.ClassFile.Decoder.instr
  rw [rd_bind (u1_at (n := 154) h0 rfl)]
  show (Jvm.ClassFile.Reader.s2 >>= fun x => pure (Jvm.ClassFile.Instr.ifCond .ne x) : Jvm.ClassFile.Decoder Jvm.ClassFile.Instr) code (pc + 1) = _
  rw [rd_bind (s2_at h1 h2 hn)]
  rfl
theorem dk_155 {code : ByteArray} {pc : Nat} {n : Int} {b c : UInt8} (h0 : code.data.toList[pc]? = some 155) (h1 : code.data.toList[pc + 1]? = some b) (h2 : code.data.toList[pc + 1 + 1]? = some c) (hn : Jvm.ClassFile.Reader.signed 16 (b.toNat * 256 + c.toNat) = n) : decode code pc = .ok (.ifCond .lt n, 3) := by
  refine dec_of (k := 3) ?_
  unfold Jvm.ClassFile.Decoder.instr
  rw [rd_bind (u1_at (n := 155) h0 rfl)]
  show (Jvm.ClassFile.Reader.s2 >>= fun x => pure (Jvm.ClassFile.Instr.ifCond .lt x) : Jvm.ClassFile.Decoder Jvm.ClassFile.Instr) code (pc + 1) = _
  rw [rd_bind (s2_at h1 h2 hn)]
  rfl
theorem dk_156 {code : ByteArray} {pc : Nat} {n : Int} {b c : UInt8} (h0 : code.data.toList[pc]? = some 156) (h1 : code.data.toList[pc + 1]? = some b) (h2 : code.data.toList[pc + 1 + 1]? = some c) (hn : Jvm.ClassFile.Reader.signed 16 (b.toNat * 256 + c.toNat) = n) : decode code pc = .ok (.ifCond .ge n, 3) := by
  refine dec_of (k := 3) ?_
  unfold Jvm.ClassFile.Decoder.instr
  rw [rd_bind (u1_at (n := 156) h0 rfl)]
  show (Jvm.ClassFile.Reader.s2 >>= fun x => pure (Jvm.ClassFile.Instr.ifCond .ge x) : Jvm.ClassFile.Decoder Jvm.ClassFile.Instr) code (pc + 1) = _
  rw [rd_bind (s2_at h1 h2 hn)]
  rfl
theorem dk_158 {code : ByteArray} {pc : Nat} {n : Int} {b c : UInt8} (h0 : code.data.toList[pc]? = some 158) (h1 : code.data.toList[pc + 1]? = some b) (h2 : code.data.toList[pc + 1 + 1]? = some c) (hn : Jvm.ClassFile.Reader.signed 16 (b.toNat * 256 + c.toNat) = n) : decode code pc = .ok (.ifCond .le n, 3) := by
  refine dec_of (k := 3) ?_
  unfold Jvm.ClassFile.Decoder.instr
  rw [rd_bind (u1_at (n := 158) h0 rfl)]
  show (Jvm.ClassFile.Reader.s2 >>= fun x => pure (Jvm.ClassFile.Instr.ifCond .le x) : Jvm.ClassFile.Decoder Jvm.ClassFile.Instr) code (pc + 1) = _
  rw [rd_bind (s2_at h1 h2 hn)]
  rfl
theorem dk_159 {code : ByteArray} {pc : Nat} {n : Int} {b c : UInt8} (h0 : code.data.toList[pc]? = some 159) (h1 : code.data.toList[pc + 1]? = some b) (h2 : code.data.toList[pc + 1 + 1]? = some c) (hn : Jvm.ClassFile.Reader.signed 16 (b.toNat * 256 + c.toNat) = n) : decode code pc = .ok (.if_icmp .eq n, 3) := by
  refine dec_of (k := 3) ?_
  unfold Jvm.ClassFile.Decoder.instr
  rw [rd_bind (u1_at (n := 159) h0 rfl)]
  show (Jvm.ClassFile.Reader.s2 >>= fun x => pure (Jvm.ClassFile.Instr.if_icmp .eq x) : Jvm.ClassFile.Decoder Jvm.ClassFile.Instr) code (pc + 1) = _
  rw [rd_bind (s2_at h1 h2 hn)]
  rfl
theorem dk_160 {code : ByteArray} {pc : Nat} {n : Int} {b c : UInt8} (h0 : code.data.toList[pc]? = some 160) (h1 : code.data.toList[pc + 1]? = some b) (h2 : code.data.toList[pc + 1 + 1]? = some c) (hn : Jvm.ClassFile.Reader.signed 16 (b.toNat * 256 + c.toNat) = n) : decode code pc = .ok (.if_icmp .ne n, 3) := by
  refine dec_of (k := 3) ?_
  unfold Jvm.ClassFile.Decoder.instr
  rw [rd_bind (u1_at (n := 160) h0 rfl)]
  show (Jvm.ClassFile.Reader.s2 >>= fun x => pure (Jvm.ClassFile.Instr.if_icmp .ne x) : Jvm.ClassFile.Decoder Jvm.ClassFile.Instr) code (pc + 1) = _
  rw [rd_bind (s2_at h1 h2 hn)]
  rfl
theorem dk_161 {code : ByteArray} {pc : Nat} {n : Int} {b c : UInt8} (h0 : code.data.toList[pc]? = some 161) (h1 : code.data.toList[pc + 1]? = some b) (h2 : code.data.toList[pc + 1 + 1]? = some c) (hn : Jvm.ClassFile.Reader.signed 16 (b.toNat * 256 + c.toNat) = n) : decode code pc = .ok (.if_icmp .lt n, 3) := by
  refine dec_of (k := 3) ?_
  unfold Jvm.ClassFile.Decoder.instr
  rw [rd_bind (u1_at (n := 161) h0 rfl)]
  show (Jvm.ClassFile.Reader.s2 >>= fun x => pure (Jvm.ClassFile.Instr.if_icmp .lt x) : Jvm.ClassFile.Decoder Jvm.ClassFile.Instr) code (pc + 1) = _
  rw [rd_bind (s2_at h1 h2 hn)]
  rfl
theorem dk_162 {code : ByteArray} {pc : Nat} {n : Int} {b c : UInt8} (h0 : code.data.toList[pc]? = some 162) (h1 : code.data.toList[pc + 1]? = some b) (h2 : code.data.toList[pc + 1 + 1]? = some c) (hn : Jvm.ClassFile.Reader.signed 16 (b.toNat * 256 + c.toNat) = n) : decode code pc = .ok (.if_icmp .ge n, 3) := by
  refine dec_of (k := 3) ?_
  unfold Jvm.ClassFile.Decoder.instr
  rw [rd_bind (u1_at (n := 162) h0 rfl)]
  show (Jvm.ClassFile.Reader.s2 >>= fun x => pure (Jvm.ClassFile.Instr.if_icmp .ge x) : Jvm.ClassFile.Decoder Jvm.ClassFile.Instr) code (pc + 1) = _
  rw [rd_bind (s2_at h1 h2 hn)]
  rfl
theorem dk_163 {code : ByteArray} {pc : Nat} {n : Int} {b c : UInt8} (h0 : code.data.toList[pc]? = some 163) (h1 : code.data.toList[pc + 1]? = some b) (h2 : code.data.toList[pc + 1 + 1]? = some c) (hn : Jvm.ClassFile.Reader.signed 16 (b.toNat * 256 + c.toNat) = n) : decode code pc = .ok (.if_icmp .gt n, 3) := by
  refine dec_of (k := 3) ?_
  unfold Jvm.ClassFile.Decoder.instr
  rw [rd_bind (u1_at (n := 163) h0 rfl)]
  show (Jvm.ClassFile.Reader.s2 >>= fun x => pure (Jvm.ClassFile.Instr.if_icmp .gt x) : Jvm.ClassFile.Decoder Jvm.ClassFile.Instr) code (pc + 1) = _
  rw [rd_bind (s2_at h1 h2 hn)]
  rfl
theorem dk_164 {code : ByteArray} {pc : Nat} {n : Int} {b c : UInt8} (h0 : code.data.toList[pc]? = some 164) (h1 : code.data.toList[pc + 1]? = some b) (h2 : code.data.toList[pc + 1 + 1]? = some c) (hn : Jvm.ClassFile.Reader.signed 16 (b.toNat * 256 + c.toNat) = n) : decode code pc = .ok (.if_icmp .le n, 3) := by
  refine dec_of (k := 3) ?_
  unfold Jvm.ClassFile.Decoder.instr
  rw [rd_bind (u1_at (n := 164) h0 rfl)]
  show (Jvm.ClassFile.Reader.s2 >>= fun x => pure (Jvm.ClassFile.Instr.if_icmp .le x) : Jvm.ClassFile.Decoder Jvm.ClassFile.Instr) code (pc + 1) = _
  rw [rd_bind (s2_at h1 h2 hn)]
  rfl
theorem dk_172 {code : ByteArray} {pc : Nat} (h0 : code.data.toList[pc]? = some 172) : decode code pc = .ok (.ireturn, 1) := by
  refine dec_of (k := 1) ?_
  unfold Jvm.ClassFile.Decoder.instr
  rw [rd_bind (u1_at (n := 172) h0 rfl)]
  rfl
theorem dk_173 {code : ByteArray} {pc : Nat} (h0 : code.data.toList[pc]? = some 173) : decode code pc = .ok (.lreturn, 1) := by
  refine dec_of (k := 1) ?_
  unfold Jvm.ClassFile.Decoder.instr
  rw [rd_bind (u1_at (n := 173) h0 rfl)]
  rfl
theorem dk_176 {code : ByteArray} {pc : Nat} (h0 : code.data.toList[pc]? = some 176) : decode code pc = .ok (.areturn, 1) := by
  refine dec_of (k := 1) ?_
  unfold Jvm.ClassFile.Decoder.instr
  rw [rd_bind (u1_at (n := 176) h0 rfl)]
  rfl
theorem dk_177 {code : ByteArray} {pc : Nat} (h0 : code.data.toList[pc]? = some 177) : decode code pc = .ok (.return_, 1) := by
  refine dec_of (k := 1) ?_
  unfold Jvm.ClassFile.Decoder.instr
  rw [rd_bind (u1_at (n := 177) h0 rfl)]
  rfl
theorem dk_178 {code : ByteArray} {pc : Nat} {n : Nat} {b c : UInt8} (h0 : code.data.toList[pc]? = some 178) (h1 : code.data.toList[pc + 1]? = some b) (h2 : code.data.toList[pc + 1 + 1]? = some c) (hn : b.toNat * 256 + c.toNat = n) : decode code pc = .ok (.getstatic n, 3) := by
  refine dec_of (k := 3) ?_
  unfold Jvm.ClassFile.Decoder.instr
  rw [rd_bind (u1_at (n := 178) h0 rfl)]
  show (Jvm.ClassFile.Reader.u2 >>= fun x => pure (Jvm.ClassFile.Instr.getstatic x) : Jvm.ClassFile.Decoder Jvm.ClassFile.Instr) code (pc + 1) = _
  rw [rd_bind (u2_at (m := 0) h1 h2 hn)]
  rfl
theorem dk_180 {code : ByteArray} {pc : Nat} {n : Nat} {b c : UInt8} (h0 : code.data.toList[pc]? = some 180) (h1 : code.data.toList[pc + 1]? = some b) (h2 : code.data.toList[pc + 1 + 1]? = some c) (hn : b.toNat * 256 + c.toNat = n) : decode code pc = .ok (.getfield n, 3) := by
  refine dec_of (k := 3) ?_
  unfold Jvm.ClassFile.Decoder.instr
  rw [rd_bind (u1_at (n := 180) h0 rfl)]
  show (Jvm.ClassFile.Reader.u2 >>= fun x => pure (Jvm.ClassFile.Instr.getfield x) : Jvm.ClassFile.Decoder Jvm.ClassFile.Instr) code (pc + 1) = _
  rw [rd_bind (u2_at (m := 0) h1 h2 hn)]
  rfl
theorem dk_181 {code : ByteArray} {pc : Nat} {n : Nat} {b c : UInt8} (h0 : code.data.toList[pc]? = some 181) (h1 : code.data.toList[pc + 1]? = some b) (h2 : code.data.toList[pc + 1 + 1]? = some c) (hn : b.toNat * 256 + c.toNat = n) : decode code pc = .ok (.putfield n, 3) := by
  refine dec_of (k := 3) ?_
  unfold Jvm.ClassFile.Decoder.instr
  rw [rd_bind (u1_at (n := 181) h0 rfl)]
  show (Jvm.ClassFile.Reader.u2 >>= fun x => pure (Jvm.ClassFile.Instr.putfield x) : Jvm.ClassFile.Decoder Jvm.ClassFile.Instr) code (pc + 1) = _
  rw [rd_bind (u2_at (m := 0) h1 h2 hn)]
  rfl
theorem dk_183 {code : ByteArray} {pc : Nat} {n : Nat} {b c : UInt8} (h0 : code.data.toList[pc]? = some 183) (h1 : code.data.toList[pc + 1]? = some b) (h2 : code.data.toList[pc + 1 + 1]? = some c) (hn : b.toNat * 256 + c.toNat = n) : decode code pc = .ok (.invokespecial n, 3) := by
  refine dec_of (k := 3) ?_
  unfold Jvm.ClassFile.Decoder.instr
  rw [rd_bind (u1_at (n := 183) h0 rfl)]
  show (Jvm.ClassFile.Reader.u2 >>= fun x => pure (Jvm.ClassFile.Instr.invokespecial x) : Jvm.ClassFile.Decoder Jvm.ClassFile.Instr) code (pc + 1) = _
  rw [rd_bind (u2_at (m := 0) h1 h2 hn)]
  rfl
theorem dk_184 {code : ByteArray} {pc : Nat} {n : Nat} {b c : UInt8} (h0 : code.data.toList[pc]? = some 184) (h1 : code.data.toList[pc + 1]? = some b) (h2 : code.data.toList[pc + 1 + 1]? = some c) (hn : b.toNat * 256 + c.toNat = n) : decode code pc = .ok (.invokestatic n, 3) := by
  refine dec_of (k := 3) ?_
  unfold Jvm.ClassFile.Decoder.instr
  rw [rd_bind (u1_at (n := 184) h0 rfl)]
  show (Jvm.ClassFile.Reader.u2 >>= fun x => pure (Jvm.ClassFile.Instr.invokestatic x) : Jvm.ClassFile.Decoder Jvm.ClassFile.Instr) code (pc + 1) = _
  rw [rd_bind (u2_at (m := 0) h1 h2 hn)]
  rfl
theorem dk_187 {code : ByteArray} {pc : Nat} {n : Nat} {b c : UInt8} (h0 : code.data.toList[pc]? = some 187) (h1 : code.data.toList[pc + 1]? = some b) (h2 : code.data.toList[pc + 1 + 1]? = some c) (hn : b.toNat * 256 + c.toNat = n) : decode code pc = .ok (.new n, 3) := by
  refine dec_of (k := 3) ?_
  unfold Jvm.ClassFile.Decoder.instr
  rw [rd_bind (u1_at (n := 187) h0 rfl)]
  show (Jvm.ClassFile.Reader.u2 >>= fun x => pure (Jvm.ClassFile.Instr.new x) : Jvm.ClassFile.Decoder Jvm.ClassFile.Instr) code (pc + 1) = _
  rw [rd_bind (u2_at (m := 0) h1 h2 hn)]
  rfl
theorem dk_189 {code : ByteArray} {pc : Nat} {n : Nat} {b c : UInt8} (h0 : code.data.toList[pc]? = some 189) (h1 : code.data.toList[pc + 1]? = some b) (h2 : code.data.toList[pc + 1 + 1]? = some c) (hn : b.toNat * 256 + c.toNat = n) : decode code pc = .ok (.anewarray n, 3) := by
  refine dec_of (k := 3) ?_
  unfold Jvm.ClassFile.Decoder.instr
  rw [rd_bind (u1_at (n := 189) h0 rfl)]
  show (Jvm.ClassFile.Reader.u2 >>= fun x => pure (Jvm.ClassFile.Instr.anewarray x) : Jvm.ClassFile.Decoder Jvm.ClassFile.Instr) code (pc + 1) = _
  rw [rd_bind (u2_at (m := 0) h1 h2 hn)]
  rfl
theorem dk_190 {code : ByteArray} {pc : Nat} (h0 : code.data.toList[pc]? = some 190) : decode code pc = .ok (.arraylength, 1) := by
  refine dec_of (k := 1) ?_
  unfold Jvm.ClassFile.Decoder.instr
  rw [rd_bind (u1_at (n := 190) h0 rfl)]
  rfl
theorem dk_191 {code : ByteArray} {pc : Nat} (h0 : code.data.toList[pc]? = some 191) : decode code pc = .ok (.athrow, 1) := by
  refine dec_of (k := 1) ?_
  unfold Jvm.ClassFile.Decoder.instr
  rw [rd_bind (u1_at (n := 191) h0 rfl)]
  rfl
theorem dk_198 {code : ByteArray} {pc : Nat} {n : Int} {b c : UInt8} (h0 : code.data.toList[pc]? = some 198) (h1 : code.data.toList[pc + 1]? = some b) (h2 : code.data.toList[pc + 1 + 1]? = some c) (hn : Jvm.ClassFile.Reader.signed 16 (b.toNat * 256 + c.toNat) = n) : decode code pc = .ok (.ifnull n, 3) := by
  refine dec_of (k := 3) ?_
  unfold Jvm.ClassFile.Decoder.instr
  rw [rd_bind (u1_at (n := 198) h0 rfl)]
  show (Jvm.ClassFile.Reader.s2 >>= fun x => pure (Jvm.ClassFile.Instr.ifnull x) : Jvm.ClassFile.Decoder Jvm.ClassFile.Instr) code (pc + 1) = _
  rw [rd_bind (s2_at h1 h2 hn)]
  rfl
theorem dk_199 {code : ByteArray} {pc : Nat} {n : Int} {b c : UInt8} (h0 : code.data.toList[pc]? = some 199) (h1 : code.data.toList[pc + 1]? = some b) (h2 : code.data.toList[pc + 1 + 1]? = some c) (hn : Jvm.ClassFile.Reader.signed 16 (b.toNat * 256 + c.toNat) = n) : decode code pc = .ok (.ifnonnull n, 3) := by
  refine dec_of (k := 3) ?_
  unfold Jvm.ClassFile.Decoder.instr
  rw [rd_bind (u1_at (n := 199) h0 rfl)]
  show (Jvm.ClassFile.Reader.s2 >>= fun x => pure (Jvm.ClassFile.Instr.ifnonnull x) : Jvm.ClassFile.Decoder Jvm.ClassFile.Instr) code (pc + 1) = _
  rw [rd_bind (s2_at h1 h2 hn)]
  rfl
theorem dk_132 {code : ByteArray} {pc n : Nat} {z : Int} {b c : UInt8} (h0 : code.data.toList[pc]? = some 132) (h1 : code.data.toList[pc + 1]? = some b) (h2 : code.data.toList[pc + 1 + 1]? = some c) (hn : b.toNat = n) (hz : Jvm.ClassFile.Reader.signed 8 c.toNat = z) : decode code pc = .ok (.iinc n z, 3) := by
  refine dec_of (k := 3) ?_
  unfold Jvm.ClassFile.Decoder.instr
  rw [rd_bind (u1_at (n := 132) h0 rfl)]
  show (Jvm.ClassFile.Reader.u1 >>= fun x => Jvm.ClassFile.Reader.s1 >>= fun y => pure (Jvm.ClassFile.Instr.iinc x y) : Jvm.ClassFile.Decoder Jvm.ClassFile.Instr) code (pc + 1) = _
  rw [rd_bind (u1_at h1 hn), rd_bind (s1_at h2 hz)]
  rfl
def kC0 : List UInt8 := 187 :: 0 :: 8 :: 89 :: 183 :: 0 :: 15 :: 76 :: 187 :: 0 :: 16 :: 89 :: 183 :: 0 :: 18 :: 77 :: 4 :: 188 :: 11 :: 78 :: 3 :: 54 :: 4 :: 21 :: 4 :: 42 :: 190 :: 16 :: 6 :: 100 :: 163 :: 7 :: 246 :: 42 :: 21 :: 4 :: 46 :: 16 :: 63 :: 126 :: 170 :: 0 :: 0 :: 0 :: 0 :: 0 :: 7 :: 230 :: 0 :: 0 :: 0 :: 0 :: 0 :: 0 :: 0 :: 54 :: 0 :: 0 :: 0 :: 236 :: 0 :: 0 :: 1 :: 53 :: []
def kC1 : List UInt8 := 0 :: 0 :: 1 :: 78 :: 0 :: 0 :: 1 :: 91 :: 0 :: 0 :: 1 :: 104 :: 0 :: 0 :: 1 :: 141 :: 0 :: 0 :: 1 :: 178 :: 0 :: 0 :: 1 :: 203 :: 0 :: 0 :: 1 :: 228 :: 0 :: 0 :: 2 :: 9 :: 0 :: 0 :: 2 :: 46 :: 0 :: 0 :: 2 :: 83 :: 0 :: 0 :: 2 :: 120 :: 0 :: 0 :: 2 :: 157 :: 0 :: 0 :: 2 :: 194 :: 0 :: 0 :: 2 :: 231 :: 0 :: 0 :: 3 :: 0 :: 0 :: 0 :: 3 :: 37 :: []
def kC2 : List UInt8 := 0 :: 0 :: 3 :: 62 :: 0 :: 0 :: 3 :: 99 :: 0 :: 0 :: 3 :: 124 :: 0 :: 0 :: 3 :: 137 :: 0 :: 0 :: 3 :: 162 :: 0 :: 0 :: 3 :: 187 :: 0 :: 0 :: 3 :: 224 :: 0 :: 0 :: 4 :: 5 :: 0 :: 0 :: 4 :: 30 :: 0 :: 0 :: 4 :: 67 :: 0 :: 0 :: 4 :: 104 :: 0 :: 0 :: 4 :: 129 :: 0 :: 0 :: 4 :: 194 :: 0 :: 0 :: 4 :: 219 :: 0 :: 0 :: 4 :: 244 :: 0 :: 0 :: 5 :: 13 :: []
def kC3 : List UInt8 := 0 :: 0 :: 5 :: 66 :: 0 :: 0 :: 5 :: 91 :: 0 :: 0 :: 5 :: 156 :: 0 :: 0 :: 5 :: 193 :: 0 :: 0 :: 6 :: 2 :: 0 :: 0 :: 6 :: 39 :: 0 :: 0 :: 6 :: 88 :: 0 :: 0 :: 6 :: 113 :: 0 :: 0 :: 6 :: 154 :: 0 :: 0 :: 6 :: 167 :: 0 :: 0 :: 6 :: 180 :: 0 :: 0 :: 6 :: 217 :: 0 :: 0 :: 6 :: 254 :: 0 :: 0 :: 7 :: 35 :: 0 :: 0 :: 7 :: 88 :: 0 :: 0 :: 7 :: 113 :: []
def kC4 : List UInt8 := 0 :: 0 :: 7 :: 126 :: 0 :: 0 :: 7 :: 139 :: 0 :: 0 :: 7 :: 164 :: 0 :: 0 :: 7 :: 192 :: 0 :: 0 :: 7 :: 217 :: 43 :: 42 :: 21 :: 4 :: 4 :: 96 :: 46 :: 42 :: 21 :: 4 :: 5 :: 96 :: 46 :: 42 :: 21 :: 4 :: 6 :: 96 :: 46 :: 42 :: 21 :: 4 :: 7 :: 96 :: 46 :: 42 :: 21 :: 4 :: 8 :: 96 :: 46 :: 182 :: 0 :: 19 :: 87 :: 44 :: 42 :: 21 :: 4 :: 4 :: 96 :: 46 :: 42 :: 21 :: []
def kC5 : List UInt8 := 4 :: 5 :: 96 :: 46 :: 42 :: 21 :: 4 :: 6 :: 96 :: 46 :: 42 :: 21 :: 4 :: 7 :: 96 :: 46 :: 42 :: 21 :: 4 :: 8 :: 96 :: 46 :: 182 :: 0 :: 23 :: 87 :: 167 :: 6 :: 180 :: 43 :: 42 :: 21 :: 4 :: 4 :: 96 :: 46 :: 182 :: 0 :: 24 :: 87 :: 44 :: 42 :: 21 :: 4 :: 4 :: 96 :: 46 :: 182 :: 0 :: 27 :: 87 :: 167 :: 6 :: 155 :: 43 :: 182 :: 0 :: 28 :: 87 :: 44 :: 182 :: 0 :: 32 :: 87 :: []
def kC6 : List UInt8 := 167 :: 6 :: 142 :: 43 :: 182 :: 0 :: 33 :: 87 :: 44 :: 182 :: 0 :: 36 :: 87 :: 167 :: 6 :: 129 :: 43 :: 42 :: 21 :: 4 :: 4 :: 96 :: 46 :: 42 :: 21 :: 4 :: 5 :: 96 :: 46 :: 182 :: 0 :: 37 :: 87 :: 44 :: 42 :: 21 :: 4 :: 4 :: 96 :: 46 :: 42 :: 21 :: 4 :: 5 :: 96 :: 46 :: 182 :: 0 :: 41 :: 87 :: 167 :: 6 :: 92 :: 43 :: 42 :: 21 :: 4 :: 4 :: 96 :: 46 :: 42 :: 21 :: 4 :: 5 :: []
def kC7 : List UInt8 := 96 :: 46 :: 182 :: 0 :: 42 :: 87 :: 44 :: 42 :: 21 :: 4 :: 4 :: 96 :: 46 :: 42 :: 21 :: 4 :: 5 :: 96 :: 46 :: 182 :: 0 :: 45 :: 87 :: 167 :: 6 :: 55 :: 43 :: 42 :: 21 :: 4 :: 4 :: 96 :: 46 :: 182 :: 0 :: 46 :: 87 :: 44 :: 42 :: 21 :: 4 :: 4 :: 96 :: 46 :: 182 :: 0 :: 49 :: 87 :: 167 :: 6 :: 30 :: 43 :: 42 :: 21 :: 4 :: 4 :: 96 :: 46 :: 182 :: 0 :: 50 :: 87 :: 44 :: 42 :: []
def kC8 : List UInt8 := 21 :: 4 :: 4 :: 96 :: 46 :: 182 :: 0 :: 53 :: 87 :: 167 :: 6 :: 5 :: 43 :: 42 :: 21 :: 4 :: 4 :: 96 :: 46 :: 42 :: 21 :: 4 :: 5 :: 96 :: 46 :: 182 :: 0 :: 54 :: 87 :: 44 :: 42 :: 21 :: 4 :: 4 :: 96 :: 46 :: 42 :: 21 :: 4 :: 5 :: 96 :: 46 :: 182 :: 0 :: 57 :: 87 :: 167 :: 5 :: 224 :: 43 :: 42 :: 21 :: 4 :: 4 :: 96 :: 46 :: 42 :: 21 :: 4 :: 5 :: 96 :: 46 :: 182 :: 0 :: []
def kC9 : List UInt8 := 58 :: 87 :: 44 :: 42 :: 21 :: 4 :: 4 :: 96 :: 46 :: 42 :: 21 :: 4 :: 5 :: 96 :: 46 :: 182 :: 0 :: 61 :: 87 :: 167 :: 5 :: 187 :: 43 :: 42 :: 21 :: 4 :: 4 :: 96 :: 46 :: 42 :: 21 :: 4 :: 5 :: 96 :: 46 :: 182 :: 0 :: 62 :: 87 :: 44 :: 42 :: 21 :: 4 :: 4 :: 96 :: 46 :: 42 :: 21 :: 4 :: 5 :: 96 :: 46 :: 182 :: 0 :: 65 :: 87 :: 167 :: 5 :: 150 :: 43 :: 42 :: 21 :: 4 :: 4 :: []
def kC10 : List UInt8 := 96 :: 46 :: 42 :: 21 :: 4 :: 5 :: 96 :: 46 :: 182 :: 0 :: 66 :: 87 :: 44 :: 42 :: 21 :: 4 :: 4 :: 96 :: 46 :: 42 :: 21 :: 4 :: 5 :: 96 :: 46 :: 182 :: 0 :: 69 :: 87 :: 167 :: 5 :: 113 :: 43 :: 42 :: 21 :: 4 :: 4 :: 96 :: 46 :: 42 :: 21 :: 4 :: 5 :: 96 :: 46 :: 182 :: 0 :: 70 :: 87 :: 44 :: 42 :: 21 :: 4 :: 4 :: 96 :: 46 :: 42 :: 21 :: 4 :: 5 :: 96 :: 46 :: 182 :: 0 :: []
def kC11 : List UInt8 := 73 :: 87 :: 167 :: 5 :: 76 :: 43 :: 42 :: 21 :: 4 :: 4 :: 96 :: 46 :: 42 :: 21 :: 4 :: 5 :: 96 :: 46 :: 182 :: 0 :: 74 :: 87 :: 44 :: 42 :: 21 :: 4 :: 4 :: 96 :: 46 :: 42 :: 21 :: 4 :: 5 :: 96 :: 46 :: 182 :: 0 :: 77 :: 87 :: 167 :: 5 :: 39 :: 43 :: 42 :: 21 :: 4 :: 4 :: 96 :: 46 :: 42 :: 21 :: 4 :: 5 :: 96 :: 46 :: 182 :: 0 :: 78 :: 87 :: 44 :: 42 :: 21 :: 4 :: 4 :: []
def kC12 : List UInt8 := 96 :: 46 :: 42 :: 21 :: 4 :: 5 :: 96 :: 46 :: 182 :: 0 :: 81 :: 87 :: 167 :: 5 :: 2 :: 43 :: 42 :: 21 :: 4 :: 4 :: 96 :: 46 :: 182 :: 0 :: 82 :: 87 :: 44 :: 42 :: 21 :: 4 :: 4 :: 96 :: 46 :: 182 :: 0 :: 85 :: 87 :: 167 :: 4 :: 233 :: 43 :: 42 :: 21 :: 4 :: 4 :: 96 :: 46 :: 42 :: 21 :: 4 :: 5 :: 96 :: 46 :: 182 :: 0 :: 86 :: 87 :: 44 :: 42 :: 21 :: 4 :: 4 :: 96 :: 46 :: []
def kC13 : List UInt8 := 42 :: 21 :: 4 :: 5 :: 96 :: 46 :: 182 :: 0 :: 89 :: 87 :: 167 :: 4 :: 196 :: 43 :: 42 :: 21 :: 4 :: 4 :: 96 :: 46 :: 182 :: 0 :: 90 :: 87 :: 44 :: 42 :: 21 :: 4 :: 4 :: 96 :: 46 :: 182 :: 0 :: 93 :: 87 :: 167 :: 4 :: 171 :: 43 :: 42 :: 21 :: 4 :: 4 :: 96 :: 46 :: 42 :: 21 :: 4 :: 5 :: 96 :: 46 :: 182 :: 0 :: 94 :: 87 :: 44 :: 42 :: 21 :: 4 :: 4 :: 96 :: 46 :: 42 :: 21 :: []
def kC14 : List UInt8 := 4 :: 5 :: 96 :: 46 :: 182 :: 0 :: 97 :: 87 :: 167 :: 4 :: 134 :: 43 :: 42 :: 21 :: 4 :: 4 :: 96 :: 46 :: 182 :: 0 :: 98 :: 87 :: 44 :: 42 :: 21 :: 4 :: 4 :: 96 :: 46 :: 182 :: 0 :: 101 :: 87 :: 167 :: 4 :: 109 :: 43 :: 182 :: 0 :: 102 :: 87 :: 44 :: 182 :: 0 :: 105 :: 87 :: 167 :: 4 :: 96 :: 43 :: 42 :: 21 :: 4 :: 4 :: 96 :: 46 :: 182 :: 0 :: 106 :: 87 :: 44 :: 42 :: 21 :: 4 :: []
def kC15 : List UInt8 := 4 :: 96 :: 46 :: 182 :: 0 :: 109 :: 87 :: 167 :: 4 :: 71 :: 43 :: 42 :: 21 :: 4 :: 4 :: 96 :: 46 :: 182 :: 0 :: 110 :: 87 :: 44 :: 42 :: 21 :: 4 :: 4 :: 96 :: 46 :: 182 :: 0 :: 113 :: 87 :: 167 :: 4 :: 46 :: 43 :: 42 :: 21 :: 4 :: 4 :: 96 :: 46 :: 42 :: 21 :: 4 :: 5 :: 96 :: 46 :: 182 :: 0 :: 114 :: 87 :: 44 :: 42 :: 21 :: 4 :: 4 :: 96 :: 46 :: 42 :: 21 :: 4 :: 5 :: 96 :: []
def kC16 : List UInt8 := 46 :: 182 :: 0 :: 117 :: 87 :: 167 :: 4 :: 9 :: 43 :: 42 :: 21 :: 4 :: 4 :: 96 :: 46 :: 42 :: 21 :: 4 :: 5 :: 96 :: 46 :: 182 :: 0 :: 118 :: 87 :: 44 :: 42 :: 21 :: 4 :: 4 :: 96 :: 46 :: 42 :: 21 :: 4 :: 5 :: 96 :: 46 :: 182 :: 0 :: 121 :: 87 :: 167 :: 3 :: 228 :: 43 :: 42 :: 21 :: 4 :: 4 :: 96 :: 46 :: 182 :: 0 :: 122 :: 87 :: 44 :: 42 :: 21 :: 4 :: 4 :: 96 :: 46 :: 182 :: []
def kC17 : List UInt8 := 0 :: 125 :: 87 :: 167 :: 3 :: 203 :: 43 :: 42 :: 21 :: 4 :: 4 :: 96 :: 46 :: 42 :: 21 :: 4 :: 5 :: 96 :: 46 :: 182 :: 0 :: 126 :: 87 :: 44 :: 42 :: 21 :: 4 :: 4 :: 96 :: 46 :: 42 :: 21 :: 4 :: 5 :: 96 :: 46 :: 182 :: 0 :: 129 :: 87 :: 167 :: 3 :: 166 :: 43 :: 42 :: 21 :: 4 :: 4 :: 96 :: 46 :: 42 :: 21 :: 4 :: 5 :: 96 :: 46 :: 182 :: 0 :: 130 :: 87 :: 44 :: 42 :: 21 :: 4 :: []
def kC18 : List UInt8 := 4 :: 96 :: 46 :: 42 :: 21 :: 4 :: 5 :: 96 :: 46 :: 182 :: 0 :: 133 :: 87 :: 167 :: 3 :: 129 :: 43 :: 42 :: 21 :: 4 :: 4 :: 96 :: 46 :: 182 :: 0 :: 134 :: 87 :: 44 :: 42 :: 21 :: 4 :: 4 :: 96 :: 46 :: 182 :: 0 :: 137 :: 87 :: 167 :: 3 :: 104 :: 43 :: 42 :: 21 :: 4 :: 4 :: 96 :: 46 :: 42 :: 21 :: 4 :: 5 :: 96 :: 46 :: 42 :: 21 :: 4 :: 6 :: 96 :: 46 :: 153 :: 0 :: 7 :: 4 :: []
def kC19 : List UInt8 := 167 :: 0 :: 4 :: 3 :: 182 :: 0 :: 138 :: 88 :: 44 :: 42 :: 21 :: 4 :: 4 :: 96 :: 46 :: 42 :: 21 :: 4 :: 5 :: 96 :: 46 :: 42 :: 21 :: 4 :: 6 :: 96 :: 46 :: 153 :: 0 :: 7 :: 4 :: 167 :: 0 :: 4 :: 3 :: 182 :: 0 :: 142 :: 88 :: 167 :: 3 :: 39 :: 43 :: 42 :: 21 :: 4 :: 4 :: 96 :: 46 :: 182 :: 0 :: 143 :: 87 :: 44 :: 42 :: 21 :: 4 :: 4 :: 96 :: 46 :: 182 :: 0 :: 146 :: 87 :: []
def kC20 : List UInt8 := 167 :: 3 :: 14 :: 43 :: 42 :: 21 :: 4 :: 4 :: 96 :: 46 :: 182 :: 0 :: 147 :: 87 :: 44 :: 42 :: 21 :: 4 :: 4 :: 96 :: 46 :: 182 :: 0 :: 150 :: 87 :: 167 :: 2 :: 245 :: 43 :: 42 :: 21 :: 4 :: 4 :: 96 :: 46 :: 182 :: 0 :: 151 :: 87 :: 44 :: 42 :: 21 :: 4 :: 4 :: 96 :: 46 :: 182 :: 0 :: 154 :: 87 :: 167 :: 2 :: 220 :: 43 :: 42 :: 21 :: 4 :: 4 :: 96 :: 46 :: 42 :: 21 :: 4 :: 5 :: []
def kC21 : List UInt8 := 96 :: 46 :: 153 :: 0 :: 7 :: 4 :: 167 :: 0 :: 4 :: 3 :: 182 :: 0 :: 155 :: 87 :: 44 :: 42 :: 21 :: 4 :: 4 :: 96 :: 46 :: 42 :: 21 :: 4 :: 5 :: 96 :: 46 :: 153 :: 0 :: 7 :: 4 :: 167 :: 0 :: 4 :: 3 :: 182 :: 0 :: 159 :: 87 :: 167 :: 2 :: 167 :: 43 :: 42 :: 21 :: 4 :: 4 :: 96 :: 46 :: 182 :: 0 :: 160 :: 87 :: 44 :: 42 :: 21 :: 4 :: 4 :: 96 :: 46 :: 182 :: 0 :: 163 :: 87 :: []
def kC22 : List UInt8 := 167 :: 2 :: 142 :: 43 :: 42 :: 21 :: 4 :: 4 :: 96 :: 46 :: 42 :: 21 :: 4 :: 5 :: 96 :: 46 :: 42 :: 21 :: 4 :: 6 :: 96 :: 46 :: 153 :: 0 :: 7 :: 4 :: 167 :: 0 :: 4 :: 3 :: 182 :: 0 :: 164 :: 88 :: 44 :: 42 :: 21 :: 4 :: 4 :: 96 :: 46 :: 42 :: 21 :: 4 :: 5 :: 96 :: 46 :: 42 :: 21 :: 4 :: 6 :: 96 :: 46 :: 153 :: 0 :: 7 :: 4 :: 167 :: 0 :: 4 :: 3 :: 182 :: 0 :: 167 :: []
def kC23 : List UInt8 := 88 :: 167 :: 2 :: 77 :: 43 :: 42 :: 21 :: 4 :: 4 :: 96 :: 46 :: 42 :: 21 :: 4 :: 5 :: 96 :: 46 :: 182 :: 0 :: 168 :: 87 :: 44 :: 42 :: 21 :: 4 :: 4 :: 96 :: 46 :: 42 :: 21 :: 4 :: 5 :: 96 :: 46 :: 182 :: 0 :: 171 :: 87 :: 167 :: 2 :: 40 :: 43 :: 42 :: 21 :: 4 :: 4 :: 96 :: 46 :: 42 :: 21 :: 4 :: 5 :: 96 :: 46 :: 42 :: 21 :: 4 :: 6 :: 96 :: 46 :: 153 :: 0 :: 7 :: 4 :: []
def kC24 : List UInt8 := 167 :: 0 :: 4 :: 3 :: 182 :: 0 :: 172 :: 88 :: 44 :: 42 :: 21 :: 4 :: 4 :: 96 :: 46 :: 42 :: 21 :: 4 :: 5 :: 96 :: 46 :: 42 :: 21 :: 4 :: 6 :: 96 :: 46 :: 153 :: 0 :: 7 :: 4 :: 167 :: 0 :: 4 :: 3 :: 182 :: 0 :: 175 :: 88 :: 167 :: 1 :: 231 :: 43 :: 42 :: 21 :: 4 :: 4 :: 96 :: 46 :: 42 :: 21 :: 4 :: 5 :: 96 :: 46 :: 182 :: 0 :: 176 :: 87 :: 44 :: 42 :: 21 :: 4 :: 4 :: []
def kC25 : List UInt8 := 96 :: 46 :: 42 :: 21 :: 4 :: 5 :: 96 :: 46 :: 182 :: 0 :: 179 :: 87 :: 167 :: 1 :: 194 :: 43 :: 42 :: 21 :: 4 :: 4 :: 96 :: 46 :: 42 :: 21 :: 4 :: 5 :: 96 :: 46 :: 42 :: 21 :: 4 :: 6 :: 96 :: 46 :: 182 :: 0 :: 180 :: 87 :: 44 :: 42 :: 21 :: 4 :: 4 :: 96 :: 46 :: 42 :: 21 :: 4 :: 5 :: 96 :: 46 :: 42 :: 21 :: 4 :: 6 :: 96 :: 46 :: 182 :: 0 :: 184 :: 87 :: 167 :: 1 :: 145 :: []
def kC26 : List UInt8 := 43 :: 42 :: 21 :: 4 :: 4 :: 96 :: 46 :: 182 :: 0 :: 185 :: 87 :: 44 :: 42 :: 21 :: 4 :: 4 :: 96 :: 46 :: 182 :: 0 :: 188 :: 87 :: 167 :: 1 :: 120 :: 43 :: 42 :: 21 :: 4 :: 4 :: 96 :: 46 :: 153 :: 0 :: 7 :: 4 :: 167 :: 0 :: 4 :: 3 :: 182 :: 0 :: 189 :: 88 :: 44 :: 42 :: 21 :: 4 :: 4 :: 96 :: 46 :: 153 :: 0 :: 7 :: 4 :: 167 :: 0 :: 4 :: 3 :: 182 :: 0 :: 193 :: 88 :: 167 :: []
def kC27 : List UInt8 := 1 :: 79 :: 43 :: 182 :: 0 :: 194 :: 87 :: 44 :: 182 :: 0 :: 197 :: 87 :: 167 :: 1 :: 66 :: 43 :: 182 :: 0 :: 198 :: 87 :: 44 :: 182 :: 0 :: 201 :: 87 :: 167 :: 1 :: 53 :: 43 :: 42 :: 21 :: 4 :: 4 :: 96 :: 46 :: 42 :: 21 :: 4 :: 5 :: 96 :: 46 :: 182 :: 0 :: 202 :: 87 :: 44 :: 42 :: 21 :: 4 :: 4 :: 96 :: 46 :: 42 :: 21 :: 4 :: 5 :: 96 :: 46 :: 182 :: 0 :: 205 :: 87 :: 167 :: 1 :: []
def kC28 : List UInt8 := 16 :: 43 :: 42 :: 21 :: 4 :: 4 :: 96 :: 46 :: 42 :: 21 :: 4 :: 5 :: 96 :: 46 :: 182 :: 0 :: 206 :: 87 :: 44 :: 42 :: 21 :: 4 :: 4 :: 96 :: 46 :: 42 :: 21 :: 4 :: 5 :: 96 :: 46 :: 182 :: 0 :: 209 :: 87 :: 167 :: 0 :: 235 :: 43 :: 42 :: 21 :: 4 :: 4 :: 96 :: 46 :: 42 :: 21 :: 4 :: 5 :: 96 :: 46 :: 182 :: 0 :: 210 :: 87 :: 44 :: 42 :: 21 :: 4 :: 4 :: 96 :: 46 :: 42 :: 21 :: []
def kC29 : List UInt8 := 4 :: 5 :: 96 :: 46 :: 182 :: 0 :: 214 :: 87 :: 167 :: 0 :: 198 :: 43 :: 42 :: 21 :: 4 :: 4 :: 96 :: 46 :: 42 :: 21 :: 4 :: 5 :: 96 :: 46 :: 153 :: 0 :: 7 :: 4 :: 167 :: 0 :: 4 :: 3 :: 182 :: 0 :: 215 :: 87 :: 44 :: 42 :: 21 :: 4 :: 4 :: 96 :: 46 :: 42 :: 21 :: 4 :: 5 :: 96 :: 46 :: 153 :: 0 :: 7 :: 4 :: 167 :: 0 :: 4 :: 3 :: 182 :: 0 :: 219 :: 87 :: 167 :: 0 :: 145 :: []
def kC30 : List UInt8 := 43 :: 42 :: 21 :: 4 :: 4 :: 96 :: 46 :: 182 :: 0 :: 220 :: 87 :: 44 :: 42 :: 21 :: 4 :: 4 :: 96 :: 46 :: 182 :: 0 :: 223 :: 87 :: 167 :: 0 :: 120 :: 43 :: 182 :: 0 :: 224 :: 87 :: 44 :: 182 :: 0 :: 228 :: 87 :: 167 :: 0 :: 107 :: 43 :: 182 :: 0 :: 229 :: 44 :: 182 :: 0 :: 232 :: 159 :: 0 :: 96 :: 3 :: 172 :: 43 :: 42 :: 21 :: 4 :: 4 :: 96 :: 46 :: 182 :: 0 :: 233 :: 87 :: 44 :: 42 :: []
def kC31 : List UInt8 := 21 :: 4 :: 4 :: 96 :: 46 :: 182 :: 0 :: 237 :: 87 :: 167 :: 0 :: 69 :: 43 :: 42 :: 21 :: 4 :: 4 :: 96 :: 46 :: 45 :: 184 :: 0 :: 238 :: 54 :: 5 :: 44 :: 42 :: 21 :: 4 :: 4 :: 96 :: 46 :: 182 :: 0 :: 243 :: 54 :: 6 :: 167 :: 0 :: 41 :: 43 :: 42 :: 21 :: 4 :: 4 :: 96 :: 46 :: 182 :: 0 :: 244 :: 87 :: 44 :: 42 :: 21 :: 4 :: 4 :: 96 :: 46 :: 182 :: 0 :: 247 :: 87 :: 167 :: 0 :: []
def kC32 : List UInt8 := 16 :: 43 :: 182 :: 0 :: 248 :: 87 :: 44 :: 182 :: 0 :: 251 :: 87 :: 167 :: 0 :: 3 :: 132 :: 4 :: 6 :: 167 :: 248 :: 6 :: 4 :: 172 :: []
def kD33 : List UInt8 := []
def kD32 : List UInt8 := kC32 ++ kD33
def kD31 : List UInt8 := kC31 ++ kD32
def kD30 : List UInt8 := kC30 ++ kD31
def kD29 : List UInt8 := kC29 ++ kD30
def kD28 : List UInt8 := kC28 ++ kD29
def kD27 : List UInt8 := kC27 ++ kD28
def kD26 : List UInt8 := kC26 ++ kD27
def kD25 : List UInt8 := kC25 ++ kD26
def kD24 : List UInt8 := kC24 ++ kD25
def kD23 : List UInt8 := kC23 ++ kD24
def kD22 : List UInt8 := kC22 ++ kD23
def kD21 : List UInt8 := kC21 ++ kD22
def kD20 : List UInt8 := kC20 ++ kD21
def kD19 : List UInt8 := kC19 ++ kD20
def kD18 : List UInt8 := kC18 ++ kD19
def kD17 : List UInt8 := kC17 ++ kD18
def kD16 : List UInt8 := kC16 ++ kD17
def kD15 : List UInt8 := kC15 ++ kD16
def kD14 : List UInt8 := kC14 ++ kD15
def kD13 : List UInt8 := kC13 ++ kD14
def kD12 : List UInt8 := kC12 ++ kD13
def kD11 : List UInt8 := kC11 ++ kD12
def kD10 : List UInt8 := kC10 ++ kD11
def kD9 : List UInt8 := kC9 ++ kD10
def kD8 : List UInt8 := kC8 ++ kD9
def kD7 : List UInt8 := kC7 ++ kD8
def kD6 : List UInt8 := kC6 ++ kD7
def kD5 : List UInt8 := kC5 ++ kD6
def kD4 : List UInt8 := kC4 ++ kD5
def kD3 : List UInt8 := kC3 ++ kD4
def kD2 : List UInt8 := kC2 ++ kD3
def kD1 : List UInt8 := kC1 ++ kD2
def kD0 : List UInt8 := kC0 ++ kD1
theorem kat_0 {b : UInt8} (i : Nat) (h : kD0[i]? = some b) : cL_law.data.toList[0 + i]? = some b := by
  have e : cL_law.data.toList = kD0 := by rfl
  rw [Nat.zero_add, e]
  exact h
theorem kat_1 {b : UInt8} (i : Nat) (h : kD1[i]? = some b) : cL_law.data.toList[64 + i]? = some b := by
  have e := kat_0 (b := b) (64 + i) (by
    show (kC0 ++ kD1)[64 + i]? = some b
    rw [List.getElem?_append_right (by show 64 ≤ 64 + i; omega)]
    show kD1[64 + i - 64]? = some b
    rw [Nat.add_sub_cancel_left]
    exact h)
  rw [show 64 + i = 0 + (64 + i) by omega]
  exact e
theorem kat_2 {b : UInt8} (i : Nat) (h : kD2[i]? = some b) : cL_law.data.toList[128 + i]? = some b := by
  have e := kat_1 (b := b) (64 + i) (by
    show (kC1 ++ kD2)[64 + i]? = some b
    rw [List.getElem?_append_right (by show 64 ≤ 64 + i; omega)]
    show kD2[64 + i - 64]? = some b
    rw [Nat.add_sub_cancel_left]
    exact h)
  rw [show 128 + i = 64 + (64 + i) by omega]
  exact e
theorem kat_3 {b : UInt8} (i : Nat) (h : kD3[i]? = some b) : cL_law.data.toList[192 + i]? = some b := by
  have e := kat_2 (b := b) (64 + i) (by
    show (kC2 ++ kD3)[64 + i]? = some b
    rw [List.getElem?_append_right (by show 64 ≤ 64 + i; omega)]
    show kD3[64 + i - 64]? = some b
    rw [Nat.add_sub_cancel_left]
    exact h)
  rw [show 192 + i = 128 + (64 + i) by omega]
  exact e
theorem kat_4 {b : UInt8} (i : Nat) (h : kD4[i]? = some b) : cL_law.data.toList[256 + i]? = some b := by
  have e := kat_3 (b := b) (64 + i) (by
    show (kC3 ++ kD4)[64 + i]? = some b
    rw [List.getElem?_append_right (by show 64 ≤ 64 + i; omega)]
    show kD4[64 + i - 64]? = some b
    rw [Nat.add_sub_cancel_left]
    exact h)
  rw [show 256 + i = 192 + (64 + i) by omega]
  exact e
theorem kat_5 {b : UInt8} (i : Nat) (h : kD5[i]? = some b) : cL_law.data.toList[320 + i]? = some b := by
  have e := kat_4 (b := b) (64 + i) (by
    show (kC4 ++ kD5)[64 + i]? = some b
    rw [List.getElem?_append_right (by show 64 ≤ 64 + i; omega)]
    show kD5[64 + i - 64]? = some b
    rw [Nat.add_sub_cancel_left]
    exact h)
  rw [show 320 + i = 256 + (64 + i) by omega]
  exact e
theorem kat_6 {b : UInt8} (i : Nat) (h : kD6[i]? = some b) : cL_law.data.toList[384 + i]? = some b := by
  have e := kat_5 (b := b) (64 + i) (by
    show (kC5 ++ kD6)[64 + i]? = some b
    rw [List.getElem?_append_right (by show 64 ≤ 64 + i; omega)]
    show kD6[64 + i - 64]? = some b
    rw [Nat.add_sub_cancel_left]
    exact h)
  rw [show 384 + i = 320 + (64 + i) by omega]
  exact e
theorem kat_7 {b : UInt8} (i : Nat) (h : kD7[i]? = some b) : cL_law.data.toList[448 + i]? = some b := by
  have e := kat_6 (b := b) (64 + i) (by
    show (kC6 ++ kD7)[64 + i]? = some b
    rw [List.getElem?_append_right (by show 64 ≤ 64 + i; omega)]
    show kD7[64 + i - 64]? = some b
    rw [Nat.add_sub_cancel_left]
    exact h)
  rw [show 448 + i = 384 + (64 + i) by omega]
  exact e
theorem kat_8 {b : UInt8} (i : Nat) (h : kD8[i]? = some b) : cL_law.data.toList[512 + i]? = some b := by
  have e := kat_7 (b := b) (64 + i) (by
    show (kC7 ++ kD8)[64 + i]? = some b
    rw [List.getElem?_append_right (by show 64 ≤ 64 + i; omega)]
    show kD8[64 + i - 64]? = some b
    rw [Nat.add_sub_cancel_left]
    exact h)
  rw [show 512 + i = 448 + (64 + i) by omega]
  exact e
theorem kat_9 {b : UInt8} (i : Nat) (h : kD9[i]? = some b) : cL_law.data.toList[576 + i]? = some b := by
  have e := kat_8 (b := b) (64 + i) (by
    show (kC8 ++ kD9)[64 + i]? = some b
    rw [List.getElem?_append_right (by show 64 ≤ 64 + i; omega)]
    show kD9[64 + i - 64]? = some b
    rw [Nat.add_sub_cancel_left]
    exact h)
  rw [show 576 + i = 512 + (64 + i) by omega]
  exact e
theorem kat_10 {b : UInt8} (i : Nat) (h : kD10[i]? = some b) : cL_law.data.toList[640 + i]? = some b := by
  have e := kat_9 (b := b) (64 + i) (by
    show (kC9 ++ kD10)[64 + i]? = some b
    rw [List.getElem?_append_right (by show 64 ≤ 64 + i; omega)]
    show kD10[64 + i - 64]? = some b
    rw [Nat.add_sub_cancel_left]
    exact h)
  rw [show 640 + i = 576 + (64 + i) by omega]
  exact e
theorem kat_11 {b : UInt8} (i : Nat) (h : kD11[i]? = some b) : cL_law.data.toList[704 + i]? = some b := by
  have e := kat_10 (b := b) (64 + i) (by
    show (kC10 ++ kD11)[64 + i]? = some b
    rw [List.getElem?_append_right (by show 64 ≤ 64 + i; omega)]
    show kD11[64 + i - 64]? = some b
    rw [Nat.add_sub_cancel_left]
    exact h)
  rw [show 704 + i = 640 + (64 + i) by omega]
  exact e
theorem kat_12 {b : UInt8} (i : Nat) (h : kD12[i]? = some b) : cL_law.data.toList[768 + i]? = some b := by
  have e := kat_11 (b := b) (64 + i) (by
    show (kC11 ++ kD12)[64 + i]? = some b
    rw [List.getElem?_append_right (by show 64 ≤ 64 + i; omega)]
    show kD12[64 + i - 64]? = some b
    rw [Nat.add_sub_cancel_left]
    exact h)
  rw [show 768 + i = 704 + (64 + i) by omega]
  exact e
theorem kat_13 {b : UInt8} (i : Nat) (h : kD13[i]? = some b) : cL_law.data.toList[832 + i]? = some b := by
  have e := kat_12 (b := b) (64 + i) (by
    show (kC12 ++ kD13)[64 + i]? = some b
    rw [List.getElem?_append_right (by show 64 ≤ 64 + i; omega)]
    show kD13[64 + i - 64]? = some b
    rw [Nat.add_sub_cancel_left]
    exact h)
  rw [show 832 + i = 768 + (64 + i) by omega]
  exact e
theorem kat_14 {b : UInt8} (i : Nat) (h : kD14[i]? = some b) : cL_law.data.toList[896 + i]? = some b := by
  have e := kat_13 (b := b) (64 + i) (by
    show (kC13 ++ kD14)[64 + i]? = some b
    rw [List.getElem?_append_right (by show 64 ≤ 64 + i; omega)]
    show kD14[64 + i - 64]? = some b
    rw [Nat.add_sub_cancel_left]
    exact h)
  rw [show 896 + i = 832 + (64 + i) by omega]
  exact e
theorem kat_15 {b : UInt8} (i : Nat) (h : kD15[i]? = some b) : cL_law.data.toList[960 + i]? = some b := by
  have e := kat_14 (b := b) (64 + i) (by
    show (kC14 ++ kD15)[64 + i]? = some b
    rw [List.getElem?_append_right (by show 64 ≤ 64 + i; omega)]
    show kD15[64 + i - 64]? = some b
    rw [Nat.add_sub_cancel_left]
    exact h)
  rw [show 960 + i = 896 + (64 + i) by omega]
  exact e
theorem kat_16 {b : UInt8} (i : Nat) (h : kD16[i]? = some b) : cL_law.data.toList[1024 + i]? = some b := by
  have e := kat_15 (b := b) (64 + i) (by
    show (kC15 ++ kD16)[64 + i]? = some b
    rw [List.getElem?_append_right (by show 64 ≤ 64 + i; omega)]
    show kD16[64 + i - 64]? = some b
    rw [Nat.add_sub_cancel_left]
    exact h)
  rw [show 1024 + i = 960 + (64 + i) by omega]
  exact e
theorem kat_17 {b : UInt8} (i : Nat) (h : kD17[i]? = some b) : cL_law.data.toList[1088 + i]? = some b := by
  have e := kat_16 (b := b) (64 + i) (by
    show (kC16 ++ kD17)[64 + i]? = some b
    rw [List.getElem?_append_right (by show 64 ≤ 64 + i; omega)]
    show kD17[64 + i - 64]? = some b
    rw [Nat.add_sub_cancel_left]
    exact h)
  rw [show 1088 + i = 1024 + (64 + i) by omega]
  exact e
theorem kat_18 {b : UInt8} (i : Nat) (h : kD18[i]? = some b) : cL_law.data.toList[1152 + i]? = some b := by
  have e := kat_17 (b := b) (64 + i) (by
    show (kC17 ++ kD18)[64 + i]? = some b
    rw [List.getElem?_append_right (by show 64 ≤ 64 + i; omega)]
    show kD18[64 + i - 64]? = some b
    rw [Nat.add_sub_cancel_left]
    exact h)
  rw [show 1152 + i = 1088 + (64 + i) by omega]
  exact e
theorem kat_19 {b : UInt8} (i : Nat) (h : kD19[i]? = some b) : cL_law.data.toList[1216 + i]? = some b := by
  have e := kat_18 (b := b) (64 + i) (by
    show (kC18 ++ kD19)[64 + i]? = some b
    rw [List.getElem?_append_right (by show 64 ≤ 64 + i; omega)]
    show kD19[64 + i - 64]? = some b
    rw [Nat.add_sub_cancel_left]
    exact h)
  rw [show 1216 + i = 1152 + (64 + i) by omega]
  exact e
theorem kat_20 {b : UInt8} (i : Nat) (h : kD20[i]? = some b) : cL_law.data.toList[1280 + i]? = some b := by
  have e := kat_19 (b := b) (64 + i) (by
    show (kC19 ++ kD20)[64 + i]? = some b
    rw [List.getElem?_append_right (by show 64 ≤ 64 + i; omega)]
    show kD20[64 + i - 64]? = some b
    rw [Nat.add_sub_cancel_left]
    exact h)
  rw [show 1280 + i = 1216 + (64 + i) by omega]
  exact e
theorem kat_21 {b : UInt8} (i : Nat) (h : kD21[i]? = some b) : cL_law.data.toList[1344 + i]? = some b := by
  have e := kat_20 (b := b) (64 + i) (by
    show (kC20 ++ kD21)[64 + i]? = some b
    rw [List.getElem?_append_right (by show 64 ≤ 64 + i; omega)]
    show kD21[64 + i - 64]? = some b
    rw [Nat.add_sub_cancel_left]
    exact h)
  rw [show 1344 + i = 1280 + (64 + i) by omega]
  exact e
theorem kat_22 {b : UInt8} (i : Nat) (h : kD22[i]? = some b) : cL_law.data.toList[1408 + i]? = some b := by
  have e := kat_21 (b := b) (64 + i) (by
    show (kC21 ++ kD22)[64 + i]? = some b
    rw [List.getElem?_append_right (by show 64 ≤ 64 + i; omega)]
    show kD22[64 + i - 64]? = some b
    rw [Nat.add_sub_cancel_left]
    exact h)
  rw [show 1408 + i = 1344 + (64 + i) by omega]
  exact e
theorem kat_23 {b : UInt8} (i : Nat) (h : kD23[i]? = some b) : cL_law.data.toList[1472 + i]? = some b := by
  have e := kat_22 (b := b) (64 + i) (by
    show (kC22 ++ kD23)[64 + i]? = some b
    rw [List.getElem?_append_right (by show 64 ≤ 64 + i; omega)]
    show kD23[64 + i - 64]? = some b
    rw [Nat.add_sub_cancel_left]
    exact h)
  rw [show 1472 + i = 1408 + (64 + i) by omega]
  exact e
theorem kat_24 {b : UInt8} (i : Nat) (h : kD24[i]? = some b) : cL_law.data.toList[1536 + i]? = some b := by
  have e := kat_23 (b := b) (64 + i) (by
    show (kC23 ++ kD24)[64 + i]? = some b
    rw [List.getElem?_append_right (by show 64 ≤ 64 + i; omega)]
    show kD24[64 + i - 64]? = some b
    rw [Nat.add_sub_cancel_left]
    exact h)
  rw [show 1536 + i = 1472 + (64 + i) by omega]
  exact e
theorem kat_25 {b : UInt8} (i : Nat) (h : kD25[i]? = some b) : cL_law.data.toList[1600 + i]? = some b := by
  have e := kat_24 (b := b) (64 + i) (by
    show (kC24 ++ kD25)[64 + i]? = some b
    rw [List.getElem?_append_right (by show 64 ≤ 64 + i; omega)]
    show kD25[64 + i - 64]? = some b
    rw [Nat.add_sub_cancel_left]
    exact h)
  rw [show 1600 + i = 1536 + (64 + i) by omega]
  exact e
theorem kat_26 {b : UInt8} (i : Nat) (h : kD26[i]? = some b) : cL_law.data.toList[1664 + i]? = some b := by
  have e := kat_25 (b := b) (64 + i) (by
    show (kC25 ++ kD26)[64 + i]? = some b
    rw [List.getElem?_append_right (by show 64 ≤ 64 + i; omega)]
    show kD26[64 + i - 64]? = some b
    rw [Nat.add_sub_cancel_left]
    exact h)
  rw [show 1664 + i = 1600 + (64 + i) by omega]
  exact e
theorem kat_27 {b : UInt8} (i : Nat) (h : kD27[i]? = some b) : cL_law.data.toList[1728 + i]? = some b := by
  have e := kat_26 (b := b) (64 + i) (by
    show (kC26 ++ kD27)[64 + i]? = some b
    rw [List.getElem?_append_right (by show 64 ≤ 64 + i; omega)]
    show kD27[64 + i - 64]? = some b
    rw [Nat.add_sub_cancel_left]
    exact h)
  rw [show 1728 + i = 1664 + (64 + i) by omega]
  exact e
theorem kat_28 {b : UInt8} (i : Nat) (h : kD28[i]? = some b) : cL_law.data.toList[1792 + i]? = some b := by
  have e := kat_27 (b := b) (64 + i) (by
    show (kC27 ++ kD28)[64 + i]? = some b
    rw [List.getElem?_append_right (by show 64 ≤ 64 + i; omega)]
    show kD28[64 + i - 64]? = some b
    rw [Nat.add_sub_cancel_left]
    exact h)
  rw [show 1792 + i = 1728 + (64 + i) by omega]
  exact e
theorem kat_29 {b : UInt8} (i : Nat) (h : kD29[i]? = some b) : cL_law.data.toList[1856 + i]? = some b := by
  have e := kat_28 (b := b) (64 + i) (by
    show (kC28 ++ kD29)[64 + i]? = some b
    rw [List.getElem?_append_right (by show 64 ≤ 64 + i; omega)]
    show kD29[64 + i - 64]? = some b
    rw [Nat.add_sub_cancel_left]
    exact h)
  rw [show 1856 + i = 1792 + (64 + i) by omega]
  exact e
theorem kat_30 {b : UInt8} (i : Nat) (h : kD30[i]? = some b) : cL_law.data.toList[1920 + i]? = some b := by
  have e := kat_29 (b := b) (64 + i) (by
    show (kC29 ++ kD30)[64 + i]? = some b
    rw [List.getElem?_append_right (by show 64 ≤ 64 + i; omega)]
    show kD30[64 + i - 64]? = some b
    rw [Nat.add_sub_cancel_left]
    exact h)
  rw [show 1920 + i = 1856 + (64 + i) by omega]
  exact e
theorem kat_31 {b : UInt8} (i : Nat) (h : kD31[i]? = some b) : cL_law.data.toList[1984 + i]? = some b := by
  have e := kat_30 (b := b) (64 + i) (by
    show (kC30 ++ kD31)[64 + i]? = some b
    rw [List.getElem?_append_right (by show 64 ≤ 64 + i; omega)]
    show kD31[64 + i - 64]? = some b
    rw [Nat.add_sub_cancel_left]
    exact h)
  rw [show 1984 + i = 1920 + (64 + i) by omega]
  exact e
theorem kat_32 {b : UInt8} (i : Nat) (h : kD32[i]? = some b) : cL_law.data.toList[2048 + i]? = some b := by
  have e := kat_31 (b := b) (64 + i) (by
    show (kC31 ++ kD32)[64 + i]? = some b
    rw [List.getElem?_append_right (by show 64 ≤ 64 + i; omega)]
    show kD32[64 + i - 64]? = some b
    rw [Nat.add_sub_cancel_left]
    exact h)
  rw [show 2048 + i = 1984 + (64 + i) by omega]
  exact e
