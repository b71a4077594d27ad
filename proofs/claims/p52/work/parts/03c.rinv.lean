def ROK (i : Nat) (v : Int) : Prop := (i = 6 → 0 ≤ v ∧ v ≤ 8) ∧ (i = 7 → 0 ≤ v ∧ v ≤ 4) ∧ (i = 8 → 0 ≤ v ∧ v ≤ 12) ∧ (i = 9 → 0 ≤ v ∧ v ≤ 8) ∧ (i = 10 → 0 ≤ v ∧ v ≤ 6) ∧ (i = 11 → 0 ≤ v ∧ v ≤ 4) ∧ (i = 12 → 0 ≤ v ∧ v ≤ 8) ∧ (i = 13 → 0 ≤ v ∧ v ≤ 6) ∧ (i = 14 → 0 ≤ v ∧ v ≤ 6) ∧ (i = 134 → 0 ≤ v ∧ v ≤ 4) ∧ (40 ≤ i ∧ i < 44 → 0 ≤ v ∧ v ≤ 9) ∧ (44 ≤ i ∧ i < 80 ∧ i % 3 = 2 → 0 ≤ v ∧ v ≤ 7) ∧ (46 ≤ i ∧ i < 82 ∧ i % 3 = 1 → 0 ≤ v ∧ v ≤ 3) ∧ (80 ≤ i ∧ i < 96 ∧ i % 2 = 0 → 0 ≤ v ∧ v ≤ 7) ∧ (96 ≤ i ∧ i < 114 ∧ i % 3 = 0 → 0 ≤ v ∧ v ≤ 7) ∧ (116 ≤ i ∧ i < 128 ∧ i % 3 = 2 → 0 ≤ v ∧ v ≤ 40) ∧ (126 ≤ i ∧ i < 134 → 0 ≤ v ∧ v ≤ 7) ∧ (137 ≤ i ∧ i < 155 ∧ i % 3 = 2 → 0 ≤ v ∧ v ≤ 7) ∧ (155 ≤ i ∧ i < 167 ∧ i % 2 = 1 → 0 ≤ v ∧ v ≤ 7) ∧ (167 ≤ i ∧ i < 183 → 0 ≤ v ∧ v ≤ 8)
def RInv (f : Nat → Int32) : Prop := ∀ i : Nat, ROK i (f i).toInt
def K16 (f h : Nat → Int32) : Prop := ∀ i : Nat, i < 16 → h i = f i
theorem K16.rf {f : Nat → Int32} : K16 f f := fun _ _ => rfl
theorem k16_u {f : Nat → Int32} {z v : Int32} (h : 16 ≤ z.toInt) : K16 f (upd f z.toNatClampNeg v) := by
  intro i q
  unfold upd
  have := tn_i (z := z) (by omega)
  rw [if_neg (by omega)]
theorem rinv_upd {f : Nat → Int32} {i : Nat} {v : Int32} (h : RInv f) (hv : ROK i v.toInt) : RInv (upd f i v) := by
  intro j
  show ROK j (upd f i v j).toInt
  unfold upd
  split
  · rename_i q
    rw [q]
    exact hv
  · exact h j
theorem rinv0 : RInv (fun _ => 0) := by
  intro i
  show ROK i (0 : Int32).toInt
  rw [zI]
  unfold ROK
  refine ⟨fun q => ?_, fun q => ?_, fun q => ?_, fun q => ?_, fun q => ?_, fun q => ?_, fun q => ?_, fun q => ?_, fun q => ?_, fun q => ?_, fun q => ?_, fun q => ?_, fun q => ?_, fun q => ?_, fun q => ?_, fun q => ?_, fun q => ?_, fun q => ?_, fun q => ?_, fun q => ?_⟩ <;> omega
theorem rb_6 {f : Nat → Int32} {y : Int32} (e : y = f (6 : Int32).toNatClampNeg) (h : RInv f) : IV y 0 8 := by
  rw [e]
  exact (h 6).1 rfl
theorem w_rb_6 {f : Nat → Int32} {v : Int32} (h : RInv f) (hv : IV v 0 8) : RInv (upd f (6 : Int32).toNatClampNeg v) := by
  refine rinv_upd h ?_
  show ROK 6 v.toInt
  have := hv
  unfold ROK
  refine ⟨fun q => ?_, fun q => ?_, fun q => ?_, fun q => ?_, fun q => ?_, fun q => ?_, fun q => ?_, fun q => ?_, fun q => ?_, fun q => ?_, fun q => ?_, fun q => ?_, fun q => ?_, fun q => ?_, fun q => ?_, fun q => ?_, fun q => ?_, fun q => ?_, fun q => ?_, fun q => ?_⟩ <;> omega
theorem rb_7 {f : Nat → Int32} {y : Int32} (e : y = f (7 : Int32).toNatClampNeg) (h : RInv f) : IV y 0 4 := by
  rw [e]
  exact (h 7).2.1 rfl
theorem w_rb_7 {f : Nat → Int32} {v : Int32} (h : RInv f) (hv : IV v 0 4) : RInv (upd f (7 : Int32).toNatClampNeg v) := by
  refine rinv_upd h ?_
  show ROK 7 v.toInt
  have := hv
  unfold ROK
  refine ⟨fun q => ?_, fun q => ?_, fun q => ?_, fun q => ?_, fun q => ?_, fun q => ?_, fun q => ?_, fun q => ?_, fun q => ?_, fun q => ?_, fun q => ?_, fun q => ?_, fun q => ?_, fun q => ?_, fun q => ?_, fun q => ?_, fun q => ?_, fun q => ?_, fun q => ?_, fun q => ?_⟩ <;> omega
theorem rb_8 {f : Nat → Int32} {y : Int32} (e : y = f (8 : Int32).toNatClampNeg) (h : RInv f) : IV y 0 12 := by
  rw [e]
  exact (h 8).2.2.1 rfl
theorem w_rb_8 {f : Nat → Int32} {v : Int32} (h : RInv f) (hv : IV v 0 12) : RInv (upd f (8 : Int32).toNatClampNeg v) := by
  refine rinv_upd h ?_
  show ROK 8 v.toInt
  have := hv
  unfold ROK
  refine ⟨fun q => ?_, fun q => ?_, fun q => ?_, fun q => ?_, fun q => ?_, fun q => ?_, fun q => ?_, fun q => ?_, fun q => ?_, fun q => ?_, fun q => ?_, fun q => ?_, fun q => ?_, fun q => ?_, fun q => ?_, fun q => ?_, fun q => ?_, fun q => ?_, fun q => ?_, fun q => ?_⟩ <;> omega
theorem rb_9 {f : Nat → Int32} {y : Int32} (e : y = f (9 : Int32).toNatClampNeg) (h : RInv f) : IV y 0 8 := by
  rw [e]
  exact (h 9).2.2.2.1 rfl
theorem w_rb_9 {f : Nat → Int32} {v : Int32} (h : RInv f) (hv : IV v 0 8) : RInv (upd f (9 : Int32).toNatClampNeg v) := by
  refine rinv_upd h ?_
  show ROK 9 v.toInt
  have := hv
  unfold ROK
  refine ⟨fun q => ?_, fun q => ?_, fun q => ?_, fun q => ?_, fun q => ?_, fun q => ?_, fun q => ?_, fun q => ?_, fun q => ?_, fun q => ?_, fun q => ?_, fun q => ?_, fun q => ?_, fun q => ?_, fun q => ?_, fun q => ?_, fun q => ?_, fun q => ?_, fun q => ?_, fun q => ?_⟩ <;> omega
theorem rb_10 {f : Nat → Int32} {y : Int32} (e : y = f (10 : Int32).toNatClampNeg) (h : RInv f) : IV y 0 6 := by
  rw [e]
  exact (h 10).2.2.2.2.1 rfl
theorem w_rb_10 {f : Nat → Int32} {v : Int32} (h : RInv f) (hv : IV v 0 6) : RInv (upd f (10 : Int32).toNatClampNeg v) := by
  refine rinv_upd h ?_
  show ROK 10 v.toInt
  have := hv
  unfold ROK
  refine ⟨fun q => ?_, fun q => ?_, fun q => ?_, fun q => ?_, fun q => ?_, fun q => ?_, fun q => ?_, fun q => ?_, fun q => ?_, fun q => ?_, fun q => ?_, fun q => ?_, fun q => ?_, fun q => ?_, fun q => ?_, fun q => ?_, fun q => ?_, fun q => ?_, fun q => ?_, fun q => ?_⟩ <;> omega
theorem rb_11 {f : Nat → Int32} {y : Int32} (e : y = f (11 : Int32).toNatClampNeg) (h : RInv f) : IV y 0 4 := by
  rw [e]
  exact (h 11).2.2.2.2.2.1 rfl
theorem w_rb_11 {f : Nat → Int32} {v : Int32} (h : RInv f) (hv : IV v 0 4) : RInv (upd f (11 : Int32).toNatClampNeg v) := by
  refine rinv_upd h ?_
  show ROK 11 v.toInt
  have := hv
  unfold ROK
  refine ⟨fun q => ?_, fun q => ?_, fun q => ?_, fun q => ?_, fun q => ?_, fun q => ?_, fun q => ?_, fun q => ?_, fun q => ?_, fun q => ?_, fun q => ?_, fun q => ?_, fun q => ?_, fun q => ?_, fun q => ?_, fun q => ?_, fun q => ?_, fun q => ?_, fun q => ?_, fun q => ?_⟩ <;> omega
theorem rb_12 {f : Nat → Int32} {y : Int32} (e : y = f (12 : Int32).toNatClampNeg) (h : RInv f) : IV y 0 8 := by
  rw [e]
  exact (h 12).2.2.2.2.2.2.1 rfl
theorem w_rb_12 {f : Nat → Int32} {v : Int32} (h : RInv f) (hv : IV v 0 8) : RInv (upd f (12 : Int32).toNatClampNeg v) := by
  refine rinv_upd h ?_
  show ROK 12 v.toInt
  have := hv
  unfold ROK
  refine ⟨fun q => ?_, fun q => ?_, fun q => ?_, fun q => ?_, fun q => ?_, fun q => ?_, fun q => ?_, fun q => ?_, fun q => ?_, fun q => ?_, fun q => ?_, fun q => ?_, fun q => ?_, fun q => ?_, fun q => ?_, fun q => ?_, fun q => ?_, fun q => ?_, fun q => ?_, fun q => ?_⟩ <;> omega
theorem rb_13 {f : Nat → Int32} {y : Int32} (e : y = f (13 : Int32).toNatClampNeg) (h : RInv f) : IV y 0 6 := by
  rw [e]
  exact (h 13).2.2.2.2.2.2.2.1 rfl
theorem w_rb_13 {f : Nat → Int32} {v : Int32} (h : RInv f) (hv : IV v 0 6) : RInv (upd f (13 : Int32).toNatClampNeg v) := by
  refine rinv_upd h ?_
  show ROK 13 v.toInt
  have := hv
  unfold ROK
  refine ⟨fun q => ?_, fun q => ?_, fun q => ?_, fun q => ?_, fun q => ?_, fun q => ?_, fun q => ?_, fun q => ?_, fun q => ?_, fun q => ?_, fun q => ?_, fun q => ?_, fun q => ?_, fun q => ?_, fun q => ?_, fun q => ?_, fun q => ?_, fun q => ?_, fun q => ?_, fun q => ?_⟩ <;> omega
theorem rb_14 {f : Nat → Int32} {y : Int32} (e : y = f (14 : Int32).toNatClampNeg) (h : RInv f) : IV y 0 6 := by
  rw [e]
  exact (h 14).2.2.2.2.2.2.2.2.1 rfl
theorem w_rb_14 {f : Nat → Int32} {v : Int32} (h : RInv f) (hv : IV v 0 6) : RInv (upd f (14 : Int32).toNatClampNeg v) := by
  refine rinv_upd h ?_
  show ROK 14 v.toInt
  have := hv
  unfold ROK
  refine ⟨fun q => ?_, fun q => ?_, fun q => ?_, fun q => ?_, fun q => ?_, fun q => ?_, fun q => ?_, fun q => ?_, fun q => ?_, fun q => ?_, fun q => ?_, fun q => ?_, fun q => ?_, fun q => ?_, fun q => ?_, fun q => ?_, fun q => ?_, fun q => ?_, fun q => ?_, fun q => ?_⟩ <;> omega
theorem rb_134 {f : Nat → Int32} {y : Int32} (e : y = f (134 : Int32).toNatClampNeg) (h : RInv f) : IV y 0 4 := by
  rw [e]
  exact (h 134).2.2.2.2.2.2.2.2.2.1 rfl
theorem w_rb_134 {f : Nat → Int32} {v : Int32} (h : RInv f) (hv : IV v 0 4) : RInv (upd f (134 : Int32).toNatClampNeg v) := by
  refine rinv_upd h ?_
  show ROK 134 v.toInt
  have := hv
  unfold ROK
  refine ⟨fun q => ?_, fun q => ?_, fun q => ?_, fun q => ?_, fun q => ?_, fun q => ?_, fun q => ?_, fun q => ?_, fun q => ?_, fun q => ?_, fun q => ?_, fun q => ?_, fun q => ?_, fun q => ?_, fun q => ?_, fun q => ?_, fun q => ?_, fun q => ?_, fun q => ?_, fun q => ?_⟩ <;> omega
theorem rb_40_1 {f : Nat → Int32} {y z m : Int32} (e : y = f z.toNatClampNeg) (h : RInv f) (i : z.toInt = 40 + 1 * m.toInt) (hm : IV m 0 3) : IV y 0 9 := by
  rw [e]
  have := hm
  have := tn_i (z := z) (by omega)
  exact (h z.toNatClampNeg).2.2.2.2.2.2.2.2.2.2.1 ⟨by omega, by omega⟩
theorem w_rb_40_1 {f : Nat → Int32} {v z m : Int32} (h : RInv f) (i : z.toInt = 40 + 1 * m.toInt) (hm : IV m 0 3) (hv : IV v 0 9) : RInv (upd f z.toNatClampNeg v) := by
  refine rinv_upd h ?_
  have := hm
  have := hv
  have := tn_i (z := z) (by omega)
  generalize z.toNatClampNeg = t at *
  unfold ROK
  refine ⟨fun q => ?_, fun q => ?_, fun q => ?_, fun q => ?_, fun q => ?_, fun q => ?_, fun q => ?_, fun q => ?_, fun q => ?_, fun q => ?_, fun q => ?_, fun q => ?_, fun q => ?_, fun q => ?_, fun q => ?_, fun q => ?_, fun q => ?_, fun q => ?_, fun q => ?_, fun q => ?_⟩ <;> omega
theorem rb_44_3 {f : Nat → Int32} {y z m : Int32} (e : y = f z.toNatClampNeg) (h : RInv f) (i : z.toInt = 44 + 3 * m.toInt) (hm : IV m 0 11) : IV y 0 7 := by
  rw [e]
  have := hm
  have := tn_i (z := z) (by omega)
  exact (h z.toNatClampNeg).2.2.2.2.2.2.2.2.2.2.2.1 ⟨by omega, by omega, by omega⟩
theorem w_rb_44_3 {f : Nat → Int32} {v z m : Int32} (h : RInv f) (i : z.toInt = 44 + 3 * m.toInt) (hm : IV m 0 11) (hv : IV v 0 7) : RInv (upd f z.toNatClampNeg v) := by
  refine rinv_upd h ?_
  have := hm
  have := hv
  have := tn_i (z := z) (by omega)
  generalize z.toNatClampNeg = t at *
  unfold ROK
  refine ⟨fun q => ?_, fun q => ?_, fun q => ?_, fun q => ?_, fun q => ?_, fun q => ?_, fun q => ?_, fun q => ?_, fun q => ?_, fun q => ?_, fun q => ?_, fun q => ?_, fun q => ?_, fun q => ?_, fun q => ?_, fun q => ?_, fun q => ?_, fun q => ?_, fun q => ?_, fun q => ?_⟩ <;> omega
theorem rb_46_3 {f : Nat → Int32} {y z m : Int32} (e : y = f z.toNatClampNeg) (h : RInv f) (i : z.toInt = 46 + 3 * m.toInt) (hm : IV m 0 11) : IV y 0 3 := by
  rw [e]
  have := hm
  have := tn_i (z := z) (by omega)
  exact (h z.toNatClampNeg).2.2.2.2.2.2.2.2.2.2.2.2.1 ⟨by omega, by omega, by omega⟩
theorem w_rb_46_3 {f : Nat → Int32} {v z m : Int32} (h : RInv f) (i : z.toInt = 46 + 3 * m.toInt) (hm : IV m 0 11) (hv : IV v 0 3) : RInv (upd f z.toNatClampNeg v) := by
  refine rinv_upd h ?_
  have := hm
  have := hv
  have := tn_i (z := z) (by omega)
  generalize z.toNatClampNeg = t at *
  unfold ROK
  refine ⟨fun q => ?_, fun q => ?_, fun q => ?_, fun q => ?_, fun q => ?_, fun q => ?_, fun q => ?_, fun q => ?_, fun q => ?_, fun q => ?_, fun q => ?_, fun q => ?_, fun q => ?_, fun q => ?_, fun q => ?_, fun q => ?_, fun q => ?_, fun q => ?_, fun q => ?_, fun q => ?_⟩ <;> omega
theorem rb_80_2 {f : Nat → Int32} {y z m : Int32} (e : y = f z.toNatClampNeg) (h : RInv f) (i : z.toInt = 80 + 2 * m.toInt) (hm : IV m 0 7) : IV y 0 7 := by
  rw [e]
  have := hm
  have := tn_i (z := z) (by omega)
  exact (h z.toNatClampNeg).2.2.2.2.2.2.2.2.2.2.2.2.2.1 ⟨by omega, by omega, by omega⟩
theorem w_rb_80_2 {f : Nat → Int32} {v z m : Int32} (h : RInv f) (i : z.toInt = 80 + 2 * m.toInt) (hm : IV m 0 7) (hv : IV v 0 7) : RInv (upd f z.toNatClampNeg v) := by
  refine rinv_upd h ?_
  have := hm
  have := hv
  have := tn_i (z := z) (by omega)
  generalize z.toNatClampNeg = t at *
  unfold ROK
  refine ⟨fun q => ?_, fun q => ?_, fun q => ?_, fun q => ?_, fun q => ?_, fun q => ?_, fun q => ?_, fun q => ?_, fun q => ?_, fun q => ?_, fun q => ?_, fun q => ?_, fun q => ?_, fun q => ?_, fun q => ?_, fun q => ?_, fun q => ?_, fun q => ?_, fun q => ?_, fun q => ?_⟩ <;> omega
theorem rb_96_3 {f : Nat → Int32} {y z m : Int32} (e : y = f z.toNatClampNeg) (h : RInv f) (i : z.toInt = 96 + 3 * m.toInt) (hm : IV m 0 5) : IV y 0 7 := by
  rw [e]
  have := hm
  have := tn_i (z := z) (by omega)
  exact (h z.toNatClampNeg).2.2.2.2.2.2.2.2.2.2.2.2.2.2.1 ⟨by omega, by omega, by omega⟩
theorem w_rb_96_3 {f : Nat → Int32} {v z m : Int32} (h : RInv f) (i : z.toInt = 96 + 3 * m.toInt) (hm : IV m 0 5) (hv : IV v 0 7) : RInv (upd f z.toNatClampNeg v) := by
  refine rinv_upd h ?_
  have := hm
  have := hv
  have := tn_i (z := z) (by omega)
  generalize z.toNatClampNeg = t at *
  unfold ROK
  refine ⟨fun q => ?_, fun q => ?_, fun q => ?_, fun q => ?_, fun q => ?_, fun q => ?_, fun q => ?_, fun q => ?_, fun q => ?_, fun q => ?_, fun q => ?_, fun q => ?_, fun q => ?_, fun q => ?_, fun q => ?_, fun q => ?_, fun q => ?_, fun q => ?_, fun q => ?_, fun q => ?_⟩ <;> omega
theorem rb_116_3 {f : Nat → Int32} {y z m : Int32} (e : y = f z.toNatClampNeg) (h : RInv f) (i : z.toInt = 116 + 3 * m.toInt) (hm : IV m 0 3) : IV y 0 40 := by
  rw [e]
  have := hm
  have := tn_i (z := z) (by omega)
  exact (h z.toNatClampNeg).2.2.2.2.2.2.2.2.2.2.2.2.2.2.2.1 ⟨by omega, by omega, by omega⟩
theorem w_rb_116_3 {f : Nat → Int32} {v z m : Int32} (h : RInv f) (i : z.toInt = 116 + 3 * m.toInt) (hm : IV m 0 3) (hv : IV v 0 40) : RInv (upd f z.toNatClampNeg v) := by
  refine rinv_upd h ?_
  have := hm
  have := hv
  have := tn_i (z := z) (by omega)
  generalize z.toNatClampNeg = t at *
  unfold ROK
  refine ⟨fun q => ?_, fun q => ?_, fun q => ?_, fun q => ?_, fun q => ?_, fun q => ?_, fun q => ?_, fun q => ?_, fun q => ?_, fun q => ?_, fun q => ?_, fun q => ?_, fun q => ?_, fun q => ?_, fun q => ?_, fun q => ?_, fun q => ?_, fun q => ?_, fun q => ?_, fun q => ?_⟩ <;> omega
theorem rb_126_1 {f : Nat → Int32} {y z m : Int32} (e : y = f z.toNatClampNeg) (h : RInv f) (i : z.toInt = 126 + 1 * m.toInt) (hm : IV m 0 7) : IV y 0 7 := by
  rw [e]
  have := hm
  have := tn_i (z := z) (by omega)
  exact (h z.toNatClampNeg).2.2.2.2.2.2.2.2.2.2.2.2.2.2.2.2.1 ⟨by omega, by omega⟩
theorem w_rb_126_1 {f : Nat → Int32} {v z m : Int32} (h : RInv f) (i : z.toInt = 126 + 1 * m.toInt) (hm : IV m 0 7) (hv : IV v 0 7) : RInv (upd f z.toNatClampNeg v) := by
  refine rinv_upd h ?_
  have := hm
  have := hv
  have := tn_i (z := z) (by omega)
  generalize z.toNatClampNeg = t at *
  unfold ROK
  refine ⟨fun q => ?_, fun q => ?_, fun q => ?_, fun q => ?_, fun q => ?_, fun q => ?_, fun q => ?_, fun q => ?_, fun q => ?_, fun q => ?_, fun q => ?_, fun q => ?_, fun q => ?_, fun q => ?_, fun q => ?_, fun q => ?_, fun q => ?_, fun q => ?_, fun q => ?_, fun q => ?_⟩ <;> omega
theorem rb_137_3 {f : Nat → Int32} {y z m : Int32} (e : y = f z.toNatClampNeg) (h : RInv f) (i : z.toInt = 137 + 3 * m.toInt) (hm : IV m 0 5) : IV y 0 7 := by
  rw [e]
  have := hm
  have := tn_i (z := z) (by omega)
  exact (h z.toNatClampNeg).2.2.2.2.2.2.2.2.2.2.2.2.2.2.2.2.2.1 ⟨by omega, by omega, by omega⟩
theorem w_rb_137_3 {f : Nat → Int32} {v z m : Int32} (h : RInv f) (i : z.toInt = 137 + 3 * m.toInt) (hm : IV m 0 5) (hv : IV v 0 7) : RInv (upd f z.toNatClampNeg v) := by
  refine rinv_upd h ?_
  have := hm
  have := hv
  have := tn_i (z := z) (by omega)
  generalize z.toNatClampNeg = t at *
  unfold ROK
  refine ⟨fun q => ?_, fun q => ?_, fun q => ?_, fun q => ?_, fun q => ?_, fun q => ?_, fun q => ?_, fun q => ?_, fun q => ?_, fun q => ?_, fun q => ?_, fun q => ?_, fun q => ?_, fun q => ?_, fun q => ?_, fun q => ?_, fun q => ?_, fun q => ?_, fun q => ?_, fun q => ?_⟩ <;> omega
theorem rb_155_2 {f : Nat → Int32} {y z m : Int32} (e : y = f z.toNatClampNeg) (h : RInv f) (i : z.toInt = 155 + 2 * m.toInt) (hm : IV m 0 5) : IV y 0 7 := by
  rw [e]
  have := hm
  have := tn_i (z := z) (by omega)
  exact (h z.toNatClampNeg).2.2.2.2.2.2.2.2.2.2.2.2.2.2.2.2.2.2.1 ⟨by omega, by omega, by omega⟩
theorem w_rb_155_2 {f : Nat → Int32} {v z m : Int32} (h : RInv f) (i : z.toInt = 155 + 2 * m.toInt) (hm : IV m 0 5) (hv : IV v 0 7) : RInv (upd f z.toNatClampNeg v) := by
  refine rinv_upd h ?_
  have := hm
  have := hv
  have := tn_i (z := z) (by omega)
  generalize z.toNatClampNeg = t at *
  unfold ROK
  refine ⟨fun q => ?_, fun q => ?_, fun q => ?_, fun q => ?_, fun q => ?_, fun q => ?_, fun q => ?_, fun q => ?_, fun q => ?_, fun q => ?_, fun q => ?_, fun q => ?_, fun q => ?_, fun q => ?_, fun q => ?_, fun q => ?_, fun q => ?_, fun q => ?_, fun q => ?_, fun q => ?_⟩ <;> omega
theorem rb_167_1 {f : Nat → Int32} {y z m : Int32} (e : y = f z.toNatClampNeg) (h : RInv f) (i : z.toInt = 167 + 1 * m.toInt) (hm : IV m 0 15) : IV y 0 8 := by
  rw [e]
  have := hm
  have := tn_i (z := z) (by omega)
  exact (h z.toNatClampNeg).2.2.2.2.2.2.2.2.2.2.2.2.2.2.2.2.2.2.2 ⟨by omega, by omega⟩
theorem w_rb_167_1 {f : Nat → Int32} {v z m : Int32} (h : RInv f) (i : z.toInt = 167 + 1 * m.toInt) (hm : IV m 0 15) (hv : IV v 0 8) : RInv (upd f z.toNatClampNeg v) := by
  refine rinv_upd h ?_
  have := hm
  have := hv
  have := tn_i (z := z) (by omega)
  generalize z.toNatClampNeg = t at *
  unfold ROK
  refine ⟨fun q => ?_, fun q => ?_, fun q => ?_, fun q => ?_, fun q => ?_, fun q => ?_, fun q => ?_, fun q => ?_, fun q => ?_, fun q => ?_, fun q => ?_, fun q => ?_, fun q => ?_, fun q => ?_, fun q => ?_, fun q => ?_, fun q => ?_, fun q => ?_, fun q => ?_, fun q => ?_⟩ <;> omega
theorem w_fr_0 {f : Nat → Int32} {v : Int32} (h : RInv f) : RInv (upd f (0 : Int32).toNatClampNeg v) := by
  refine rinv_upd h ?_
  show ROK 0 v.toInt
  unfold ROK
  refine ⟨fun q => ?_, fun q => ?_, fun q => ?_, fun q => ?_, fun q => ?_, fun q => ?_, fun q => ?_, fun q => ?_, fun q => ?_, fun q => ?_, fun q => ?_, fun q => ?_, fun q => ?_, fun q => ?_, fun q => ?_, fun q => ?_, fun q => ?_, fun q => ?_, fun q => ?_, fun q => ?_⟩ <;> omega
theorem w_fr_1 {f : Nat → Int32} {v : Int32} (h : RInv f) : RInv (upd f (1 : Int32).toNatClampNeg v) := by
  refine rinv_upd h ?_
  show ROK 1 v.toInt
  unfold ROK
  refine ⟨fun q => ?_, fun q => ?_, fun q => ?_, fun q => ?_, fun q => ?_, fun q => ?_, fun q => ?_, fun q => ?_, fun q => ?_, fun q => ?_, fun q => ?_, fun q => ?_, fun q => ?_, fun q => ?_, fun q => ?_, fun q => ?_, fun q => ?_, fun q => ?_, fun q => ?_, fun q => ?_⟩ <;> omega
theorem w_fr_2 {f : Nat → Int32} {v : Int32} (h : RInv f) : RInv (upd f (2 : Int32).toNatClampNeg v) := by
  refine rinv_upd h ?_
  show ROK 2 v.toInt
  unfold ROK
  refine ⟨fun q => ?_, fun q => ?_, fun q => ?_, fun q => ?_, fun q => ?_, fun q => ?_, fun q => ?_, fun q => ?_, fun q => ?_, fun q => ?_, fun q => ?_, fun q => ?_, fun q => ?_, fun q => ?_, fun q => ?_, fun q => ?_, fun q => ?_, fun q => ?_, fun q => ?_, fun q => ?_⟩ <;> omega
theorem w_fr_3 {f : Nat → Int32} {v : Int32} (h : RInv f) : RInv (upd f (3 : Int32).toNatClampNeg v) := by
  refine rinv_upd h ?_
  show ROK 3 v.toInt
  unfold ROK
  refine ⟨fun q => ?_, fun q => ?_, fun q => ?_, fun q => ?_, fun q => ?_, fun q => ?_, fun q => ?_, fun q => ?_, fun q => ?_, fun q => ?_, fun q => ?_, fun q => ?_, fun q => ?_, fun q => ?_, fun q => ?_, fun q => ?_, fun q => ?_, fun q => ?_, fun q => ?_, fun q => ?_⟩ <;> omega
theorem w_fr_4 {f : Nat → Int32} {v : Int32} (h : RInv f) : RInv (upd f (4 : Int32).toNatClampNeg v) := by
  refine rinv_upd h ?_
  show ROK 4 v.toInt
  unfold ROK
  refine ⟨fun q => ?_, fun q => ?_, fun q => ?_, fun q => ?_, fun q => ?_, fun q => ?_, fun q => ?_, fun q => ?_, fun q => ?_, fun q => ?_, fun q => ?_, fun q => ?_, fun q => ?_, fun q => ?_, fun q => ?_, fun q => ?_, fun q => ?_, fun q => ?_, fun q => ?_, fun q => ?_⟩ <;> omega
theorem w_fr_5 {f : Nat → Int32} {v : Int32} (h : RInv f) : RInv (upd f (5 : Int32).toNatClampNeg v) := by
  refine rinv_upd h ?_
  show ROK 5 v.toInt
  unfold ROK
  refine ⟨fun q => ?_, fun q => ?_, fun q => ?_, fun q => ?_, fun q => ?_, fun q => ?_, fun q => ?_, fun q => ?_, fun q => ?_, fun q => ?_, fun q => ?_, fun q => ?_, fun q => ?_, fun q => ?_, fun q => ?_, fun q => ?_, fun q => ?_, fun q => ?_, fun q => ?_, fun q => ?_⟩ <;> omega
theorem w_fr_15 {f : Nat → Int32} {v : Int32} (h : RInv f) : RInv (upd f (15 : Int32).toNatClampNeg v) := by
  refine rinv_upd h ?_
  show ROK 15 v.toInt
  unfold ROK
  refine ⟨fun q => ?_, fun q => ?_, fun q => ?_, fun q => ?_, fun q => ?_, fun q => ?_, fun q => ?_, fun q => ?_, fun q => ?_, fun q => ?_, fun q => ?_, fun q => ?_, fun q => ?_, fun q => ?_, fun q => ?_, fun q => ?_, fun q => ?_, fun q => ?_, fun q => ?_, fun q => ?_⟩ <;> omega
theorem w_fr_135 {f : Nat → Int32} {v : Int32} (h : RInv f) : RInv (upd f (135 : Int32).toNatClampNeg v) := by
  refine rinv_upd h ?_
  show ROK 135 v.toInt
  unfold ROK
  refine ⟨fun q => ?_, fun q => ?_, fun q => ?_, fun q => ?_, fun q => ?_, fun q => ?_, fun q => ?_, fun q => ?_, fun q => ?_, fun q => ?_, fun q => ?_, fun q => ?_, fun q => ?_, fun q => ?_, fun q => ?_, fun q => ?_, fun q => ?_, fun q => ?_, fun q => ?_, fun q => ?_⟩ <;> omega
theorem w_fr_136 {f : Nat → Int32} {v : Int32} (h : RInv f) : RInv (upd f (136 : Int32).toNatClampNeg v) := by
  refine rinv_upd h ?_
  show ROK 136 v.toInt
  unfold ROK
  refine ⟨fun q => ?_, fun q => ?_, fun q => ?_, fun q => ?_, fun q => ?_, fun q => ?_, fun q => ?_, fun q => ?_, fun q => ?_, fun q => ?_, fun q => ?_, fun q => ?_, fun q => ?_, fun q => ?_, fun q => ?_, fun q => ?_, fun q => ?_, fun q => ?_, fun q => ?_, fun q => ?_⟩ <;> omega
theorem w_fr_16_3 {f : Nat → Int32} {v z m : Int32} (h : RInv f) (i : z.toInt = 16 + 3 * m.toInt) (hm : IV m 0 7) : RInv (upd f z.toNatClampNeg v) := by
  refine rinv_upd h ?_
  have := hm
  have := tn_i (z := z) (by omega)
  generalize z.toNatClampNeg = t at *
  unfold ROK
  refine ⟨fun q => ?_, fun q => ?_, fun q => ?_, fun q => ?_, fun q => ?_, fun q => ?_, fun q => ?_, fun q => ?_, fun q => ?_, fun q => ?_, fun q => ?_, fun q => ?_, fun q => ?_, fun q => ?_, fun q => ?_, fun q => ?_, fun q => ?_, fun q => ?_, fun q => ?_, fun q => ?_⟩ <;> omega
theorem w_fr_17_3 {f : Nat → Int32} {v z m : Int32} (h : RInv f) (i : z.toInt = 17 + 3 * m.toInt) (hm : IV m 0 7) : RInv (upd f z.toNatClampNeg v) := by
  refine rinv_upd h ?_
  have := hm
  have := tn_i (z := z) (by omega)
  generalize z.toNatClampNeg = t at *
  unfold ROK
  refine ⟨fun q => ?_, fun q => ?_, fun q => ?_, fun q => ?_, fun q => ?_, fun q => ?_, fun q => ?_, fun q => ?_, fun q => ?_, fun q => ?_, fun q => ?_, fun q => ?_, fun q => ?_, fun q => ?_, fun q => ?_, fun q => ?_, fun q => ?_, fun q => ?_, fun q => ?_, fun q => ?_⟩ <;> omega
theorem w_fr_18_3 {f : Nat → Int32} {v z m : Int32} (h : RInv f) (i : z.toInt = 18 + 3 * m.toInt) (hm : IV m 0 7) : RInv (upd f z.toNatClampNeg v) := by
  refine rinv_upd h ?_
  have := hm
  have := tn_i (z := z) (by omega)
  generalize z.toNatClampNeg = t at *
  unfold ROK
  refine ⟨fun q => ?_, fun q => ?_, fun q => ?_, fun q => ?_, fun q => ?_, fun q => ?_, fun q => ?_, fun q => ?_, fun q => ?_, fun q => ?_, fun q => ?_, fun q => ?_, fun q => ?_, fun q => ?_, fun q => ?_, fun q => ?_, fun q => ?_, fun q => ?_, fun q => ?_, fun q => ?_⟩ <;> omega
theorem w_fr_45_3 {f : Nat → Int32} {v z m : Int32} (h : RInv f) (i : z.toInt = 45 + 3 * m.toInt) (hm : IV m 0 11) : RInv (upd f z.toNatClampNeg v) := by
  refine rinv_upd h ?_
  have := hm
  have := tn_i (z := z) (by omega)
  generalize z.toNatClampNeg = t at *
  unfold ROK
  refine ⟨fun q => ?_, fun q => ?_, fun q => ?_, fun q => ?_, fun q => ?_, fun q => ?_, fun q => ?_, fun q => ?_, fun q => ?_, fun q => ?_, fun q => ?_, fun q => ?_, fun q => ?_, fun q => ?_, fun q => ?_, fun q => ?_, fun q => ?_, fun q => ?_, fun q => ?_, fun q => ?_⟩ <;> omega
theorem w_fr_81_2 {f : Nat → Int32} {v z m : Int32} (h : RInv f) (i : z.toInt = 81 + 2 * m.toInt) (hm : IV m 0 7) : RInv (upd f z.toNatClampNeg v) := by
  refine rinv_upd h ?_
  have := hm
  have := tn_i (z := z) (by omega)
  generalize z.toNatClampNeg = t at *
  unfold ROK
  refine ⟨fun q => ?_, fun q => ?_, fun q => ?_, fun q => ?_, fun q => ?_, fun q => ?_, fun q => ?_, fun q => ?_, fun q => ?_, fun q => ?_, fun q => ?_, fun q => ?_, fun q => ?_, fun q => ?_, fun q => ?_, fun q => ?_, fun q => ?_, fun q => ?_, fun q => ?_, fun q => ?_⟩ <;> omega
theorem w_fr_97_3 {f : Nat → Int32} {v z m : Int32} (h : RInv f) (i : z.toInt = 97 + 3 * m.toInt) (hm : IV m 0 5) : RInv (upd f z.toNatClampNeg v) := by
  refine rinv_upd h ?_
  have := hm
  have := tn_i (z := z) (by omega)
  generalize z.toNatClampNeg = t at *
  unfold ROK
  refine ⟨fun q => ?_, fun q => ?_, fun q => ?_, fun q => ?_, fun q => ?_, fun q => ?_, fun q => ?_, fun q => ?_, fun q => ?_, fun q => ?_, fun q => ?_, fun q => ?_, fun q => ?_, fun q => ?_, fun q => ?_, fun q => ?_, fun q => ?_, fun q => ?_, fun q => ?_, fun q => ?_⟩ <;> omega
theorem w_fr_98_3 {f : Nat → Int32} {v z m : Int32} (h : RInv f) (i : z.toInt = 98 + 3 * m.toInt) (hm : IV m 0 5) : RInv (upd f z.toNatClampNeg v) := by
  refine rinv_upd h ?_
  have := hm
  have := tn_i (z := z) (by omega)
  generalize z.toNatClampNeg = t at *
  unfold ROK
  refine ⟨fun q => ?_, fun q => ?_, fun q => ?_, fun q => ?_, fun q => ?_, fun q => ?_, fun q => ?_, fun q => ?_, fun q => ?_, fun q => ?_, fun q => ?_, fun q => ?_, fun q => ?_, fun q => ?_, fun q => ?_, fun q => ?_, fun q => ?_, fun q => ?_, fun q => ?_, fun q => ?_⟩ <;> omega
theorem w_fr_114_3 {f : Nat → Int32} {v z m : Int32} (h : RInv f) (i : z.toInt = 114 + 3 * m.toInt) (hm : IV m 0 3) : RInv (upd f z.toNatClampNeg v) := by
  refine rinv_upd h ?_
  have := hm
  have := tn_i (z := z) (by omega)
  generalize z.toNatClampNeg = t at *
  unfold ROK
  refine ⟨fun q => ?_, fun q => ?_, fun q => ?_, fun q => ?_, fun q => ?_, fun q => ?_, fun q => ?_, fun q => ?_, fun q => ?_, fun q => ?_, fun q => ?_, fun q => ?_, fun q => ?_, fun q => ?_, fun q => ?_, fun q => ?_, fun q => ?_, fun q => ?_, fun q => ?_, fun q => ?_⟩ <;> omega
theorem w_fr_115_3 {f : Nat → Int32} {v z m : Int32} (h : RInv f) (i : z.toInt = 115 + 3 * m.toInt) (hm : IV m 0 3) : RInv (upd f z.toNatClampNeg v) := by
  refine rinv_upd h ?_
  have := hm
  have := tn_i (z := z) (by omega)
  generalize z.toNatClampNeg = t at *
  unfold ROK
  refine ⟨fun q => ?_, fun q => ?_, fun q => ?_, fun q => ?_, fun q => ?_, fun q => ?_, fun q => ?_, fun q => ?_, fun q => ?_, fun q => ?_, fun q => ?_, fun q => ?_, fun q => ?_, fun q => ?_, fun q => ?_, fun q => ?_, fun q => ?_, fun q => ?_, fun q => ?_, fun q => ?_⟩ <;> omega
theorem w_fr_138_3 {f : Nat → Int32} {v z m : Int32} (h : RInv f) (i : z.toInt = 138 + 3 * m.toInt) (hm : IV m 0 5) : RInv (upd f z.toNatClampNeg v) := by
  refine rinv_upd h ?_
  have := hm
  have := tn_i (z := z) (by omega)
  generalize z.toNatClampNeg = t at *
  unfold ROK
  refine ⟨fun q => ?_, fun q => ?_, fun q => ?_, fun q => ?_, fun q => ?_, fun q => ?_, fun q => ?_, fun q => ?_, fun q => ?_, fun q => ?_, fun q => ?_, fun q => ?_, fun q => ?_, fun q => ?_, fun q => ?_, fun q => ?_, fun q => ?_, fun q => ?_, fun q => ?_, fun q => ?_⟩ <;> omega
theorem w_fr_139_3 {f : Nat → Int32} {v z m : Int32} (h : RInv f) (i : z.toInt = 139 + 3 * m.toInt) (hm : IV m 0 5) : RInv (upd f z.toNatClampNeg v) := by
  refine rinv_upd h ?_
  have := hm
  have := tn_i (z := z) (by omega)
  generalize z.toNatClampNeg = t at *
  unfold ROK
  refine ⟨fun q => ?_, fun q => ?_, fun q => ?_, fun q => ?_, fun q => ?_, fun q => ?_, fun q => ?_, fun q => ?_, fun q => ?_, fun q => ?_, fun q => ?_, fun q => ?_, fun q => ?_, fun q => ?_, fun q => ?_, fun q => ?_, fun q => ?_, fun q => ?_, fun q => ?_, fun q => ?_⟩ <;> omega
theorem w_fr_156_2 {f : Nat → Int32} {v z m : Int32} (h : RInv f) (i : z.toInt = 156 + 2 * m.toInt) (hm : IV m 0 5) : RInv (upd f z.toNatClampNeg v) := by
  refine rinv_upd h ?_
  have := hm
  have := tn_i (z := z) (by omega)
  generalize z.toNatClampNeg = t at *
  unfold ROK
  refine ⟨fun q => ?_, fun q => ?_, fun q => ?_, fun q => ?_, fun q => ?_, fun q => ?_, fun q => ?_, fun q => ?_, fun q => ?_, fun q => ?_, fun q => ?_, fun q => ?_, fun q => ?_, fun q => ?_, fun q => ?_, fun q => ?_, fun q => ?_, fun q => ?_, fun q => ?_, fun q => ?_⟩ <;> omega
theorem w_let {f : Nat → Int32} {v z : Int32} (h : RInv f) (i : 183 ≤ z.toInt) : RInv (upd f z.toNatClampNeg v) := by
  refine rinv_upd h ?_
  have := tn_i (z := z) (by omega)
  generalize z.toNatClampNeg = t at *
  unfold ROK
  refine ⟨fun q => ?_, fun q => ?_, fun q => ?_, fun q => ?_, fun q => ?_, fun q => ?_, fun q => ?_, fun q => ?_, fun q => ?_, fun q => ?_, fun q => ?_, fun q => ?_, fun q => ?_, fun q => ?_, fun q => ?_, fun q => ?_, fun q => ?_, fun q => ?_, fun q => ?_, fun q => ?_⟩ <;> omega
theorem w_zero {f : Nat → Int32} {i : Nat} (h : RInv f) : RInv (upd f i 0) := by
  refine rinv_upd h ?_
  rw [zI]
  unfold ROK
  refine ⟨fun q => ?_, fun q => ?_, fun q => ?_, fun q => ?_, fun q => ?_, fun q => ?_, fun q => ?_, fun q => ?_, fun q => ?_, fun q => ?_, fun q => ?_, fun q => ?_, fun q => ?_, fun q => ?_, fun q => ?_, fun q => ?_, fun q => ?_, fun q => ?_, fun q => ?_, fun q => ?_⟩ <;> omega
theorem rinv_cp {f h : Nat → Int32} {k : Int32} (hf : RInv f) (hx : ∀ i : Nat, i < k.toInt.toNat → h i = f i) (hk : 311 ≤ k.toInt) : RInv h := by
  intro i
  by_cases q : i < 311
  · rw [hx i (by omega)]
    exact hf i
  · unfold ROK
    refine ⟨fun z => ?_, fun z => ?_, fun z => ?_, fun z => ?_, fun z => ?_, fun z => ?_, fun z => ?_, fun z => ?_, fun z => ?_, fun z => ?_, fun z => ?_, fun z => ?_, fun z => ?_, fun z => ?_, fun z => ?_, fun z => ?_, fun z => ?_, fun z => ?_, fun z => ?_, fun z => ?_⟩ <;> omega
theorem iv_shl {z v : Int32} (e : z = 1 <<< (v &&& 31)) (h : IV v 0 8) : IV z 1 256 := by
  have h1 : v = 0 ∨ v = 1 ∨ v = 2 ∨ v = 3 ∨ v = 4 ∨ v = 5 ∨ v = 6 ∨ v = 7 ∨ v = 8 := by
    have := h
    rcases (show v.toInt = 0 ∨ v.toInt = 1 ∨ v.toInt = 2 ∨ v.toInt = 3 ∨ v.toInt = 4 ∨ v.toInt = 5 ∨ v.toInt = 6 ∨ v.toInt = 7 ∨ v.toInt = 8 by omega) with q | q | q | q | q | q | q | q | q
    · exact Or.inl (Int32.toInt_inj.mp q)
    · exact Or.inr (Or.inl (Int32.toInt_inj.mp q))
    · exact Or.inr (Or.inr (Or.inl (Int32.toInt_inj.mp q)))
    · exact Or.inr (Or.inr (Or.inr (Or.inl (Int32.toInt_inj.mp q))))
    · exact Or.inr (Or.inr (Or.inr (Or.inr (Or.inl (Int32.toInt_inj.mp q)))))
    · exact Or.inr (Or.inr (Or.inr (Or.inr (Or.inr (Or.inl (Int32.toInt_inj.mp q))))))
    · exact Or.inr (Or.inr (Or.inr (Or.inr (Or.inr (Or.inr (Or.inl (Int32.toInt_inj.mp q)))))))
    · exact Or.inr (Or.inr (Or.inr (Or.inr (Or.inr (Or.inr (Or.inr (Or.inl (Int32.toInt_inj.mp q))))))))
    · exact Or.inr (Or.inr (Or.inr (Or.inr (Or.inr (Or.inr (Or.inr (Or.inr (Int32.toInt_inj.mp q))))))))
  rcases h1 with q | q | q | q | q | q | q | q | q <;> rw [e, q] <;> decide
theorem bm64 {z : Int} (h1 : -9223372036854775808 ≤ z) (h2 : z < 9223372036854775808) : z.bmod (2 ^ 64) = z := by
  unfold Int.bmod
  have e : ((2 ^ 64 : Nat) : Int) = 18446744073709551616 := by decide
  rw [e]
  dsimp only
  split <;> omega
theorem rng64 (x : Int64) : -9223372036854775808 ≤ x.toInt ∧ x.toInt < 9223372036854775808 := ⟨Int64.le_toInt x, Int64.toInt_lt x⟩
theorem lrem_abs {x y z : Int64} (e : z = x - x / y * y) (h : ¬ y = 0) : z.toInt.natAbs < y.toInt.natAbs := by
  have hy : y.toInt ≠ 0 := fun q => h (Int64.toInt_inj.mp q)
  have h1 : (x.toInt.tmod y.toInt).natAbs < y.toInt.natAbs := by
    rw [Int.natAbs_tmod]
    exact Nat.mod_lt _ (by omega)
  have h2 := rng64 y
  have h3 : z.toInt = x.toInt.tmod y.toInt := by
    rw [e, Int64.toInt_sub, Int64.toInt_mul, Int64.toInt_div, Int.bmod_mul_bmod, Int.sub_bmod_bmod]
    have h4 : x.toInt - x.toInt.tdiv y.toInt * y.toInt = x.toInt.tmod y.toInt := by rw [Int.tmod_def, Int.mul_comm]
    rw [h4]
    exact bm64 (by omega) (by omega)
  rw [h3]
  exact h1
theorem p100 {v z : Int64} {k k' : Int32} (e : z = v * 100) (hv : v.toInt = 100 ^ k.toInt.toNat) (hk : IV k 0 7) (hk' : k'.toInt = k.toInt + 1) : z.toInt = 100 ^ k'.toInt.toNat := by
  have q0 := hk
  have q1 : k'.toInt.toNat = k.toInt.toNat + 1 := by omega
  have q2 : (100 : Int) ^ k.toInt.toNat ≤ 100 ^ 7 := by
    have : (100 : Nat) ^ k.toInt.toNat ≤ 100 ^ 7 := Nat.pow_le_pow_right (by decide) (by omega)
    exact_mod_cast this
  have q3 : (0 : Int) ≤ 100 ^ k.toInt.toNat := by
    have : (0 : Nat) ≤ 100 ^ k.toInt.toNat := Nat.zero_le _
    exact_mod_cast this
  have e100 : (100 : Int64).toInt = 100 := by decide
  have e7 : (100 : Int) ^ 7 = 100000000000000 := by decide
  rw [e, Int64.toInt_mul, e100, hv, bm64 (by omega) (by omega), q1, Int.pow_succ]
theorem p100n {v : Int64} {n : Nat} (hv : v.toInt = 100 ^ n) : v ≠ 0 := by
  intro q
  rw [q] at hv
  have : (0 : Nat) < 100 ^ n := Nat.pow_pos (by decide)
  have h2 : (0 : Int) < 100 ^ n := by exact_mod_cast this
  have h3 : (0 : Int64).toInt = 0 := by decide
  omega
theorem lg0 {y : Int64} {z : Int32} (e : z = lg_cmp y 0) (h : ¬ z = 0) : ¬ y = 0 := by
  intro q
  subst q
  subst e
  exact h (by decide)
theorem lg1 {y : Int64} {z : Int32} (e : z = lg_cmp y 0) (h : z = 0) : y = 0 := by
  subst e
  unfold lg_cmp at h
  split at h
  · exact absurd h (by decide)
  · split at h
    · assumption
    · exact absurd h (by decide)
theorem lown {x y : Int64} {z : Int32} (hx : ¬ (x = 0 ∧ y = 0)) (e : z = lg_cmp y 0) (h : z = 0) : ¬ x = 0 := fun q => hx ⟨q, lg1 e h⟩
theorem cp_0 {f h : Nat → Int32} : ∀ i : Nat, i < (0 : Int32).toInt.toNat → h i = f i := fun i q => absurd q (by rw [zI]; exact Nat.not_lt_zero _)
theorem cp_step {f h : Nat → Int32} {k k' z v : Int32} (hx : ∀ i : Nat, i < k.toInt.toNat → h i = f i) (iz : z.toInt = 0 + k.toInt) (ev : v = f z.toNatClampNeg) (ik : k'.toInt = k.toInt + 1) (h0 : 0 ≤ k.toInt) : ∀ i : Nat, i < k'.toInt.toNat → upd h z.toNatClampNeg v i = f i := by
  intro i q
  have t := tn_i (z := z) (by omega)
  unfold upd
  split
  · rename_i e
    rw [ev, e]
  · exact hx i (by omega)
