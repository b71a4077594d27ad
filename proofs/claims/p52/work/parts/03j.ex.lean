set_option maxRecDepth 100000
set_option maxHeartbeats 4000000
theorem iz1 {z x : Int32} {a b c lo hi : Int} (i : z.toInt = x.toInt + c) (h : IV x a b) (h1 : lo ≤ a + c) (h2 : b + c ≤ hi) : IV z lo hi := by
  rw [IV] at h
  rw [IV, i]
  exact ⟨by omega, by omega⟩
theorem iz2 {z x : Int32} {a b c lo hi : Int} (i : z.toInt = c + x.toInt) (h : IV x a b) (h1 : lo ≤ c + a) (h2 : c + b ≤ hi) : IV z lo hi := by
  rw [IV] at h
  rw [IV, i]
  exact ⟨by omega, by omega⟩
theorem iz4 {z x : Int32} {a b k lo hi : Int} (i : z.toInt = k * x.toInt) (h : IV x a b) (hk : 0 ≤ k) (h1 : lo ≤ k * a) (h2 : k * b ≤ hi) : IV z lo hi := by
  rw [IV] at h
  rw [IV, i]
  have e1 := Int.mul_le_mul_of_nonneg_left h.1 hk
  have e2 := Int.mul_le_mul_of_nonneg_left h.2 hk
  exact ⟨by omega, by omega⟩
theorem iz5 {z x : Int32} {a b c lo hi : Int} (i : z.toInt = x.toInt - c) (h : IV x a b) (h1 : lo ≤ a - c) (h2 : b - c ≤ hi) : IV z lo hi := by
  rw [IV] at h
  rw [IV, i]
  exact ⟨by omega, by omega⟩
theorem iz7 {z x : Int32} {a b c lo hi : Int} (i : z.toInt = c - x.toInt) (h : IV x a b) (h1 : lo ≤ c - b) (h2 : c - a ≤ hi) : IV z lo hi := by
  rw [IV] at h
  rw [IV, i]
  exact ⟨by omega, by omega⟩
theorem exE1 {α0 : Type} {A B : α0 → Prop} {G : Prop} (h : ∃ (x0 : α0), A x0 ∧ B x0) (k : ∀ (x0 : α0), A x0 → B x0 → G) : G := Exists.elim h (fun x0 h1 => k x0 h1.1 h1.2)
theorem exE2 {α0 α1 : Type} {A B : α0 → α1 → Prop} {G : Prop} (h : ∃ (x0 : α0) (x1 : α1), A x0 x1 ∧ B x0 x1) (k : ∀ (x0 : α0) (x1 : α1), A x0 x1 → B x0 x1 → G) : G := Exists.elim h (fun x0 h1 => Exists.elim h1 (fun x1 h2 => k x0 x1 h2.1 h2.2))
theorem exE3 {α0 α1 α2 : Type} {A B : α0 → α1 → α2 → Prop} {G : Prop} (h : ∃ (x0 : α0) (x1 : α1) (x2 : α2), A x0 x1 x2 ∧ B x0 x1 x2) (k : ∀ (x0 : α0) (x1 : α1) (x2 : α2), A x0 x1 x2 → B x0 x1 x2 → G) : G := Exists.elim h (fun x0 h1 => Exists.elim h1 (fun x1 h2 => Exists.elim h2 (fun x2 h3 => k x0 x1 x2 h3.1 h3.2)))
theorem exE4 {α0 α1 α2 α3 : Type} {A B : α0 → α1 → α2 → α3 → Prop} {G : Prop} (h : ∃ (x0 : α0) (x1 : α1) (x2 : α2) (x3 : α3), A x0 x1 x2 x3 ∧ B x0 x1 x2 x3) (k : ∀ (x0 : α0) (x1 : α1) (x2 : α2) (x3 : α3), A x0 x1 x2 x3 → B x0 x1 x2 x3 → G) : G := Exists.elim h (fun x0 h1 => Exists.elim h1 (fun x1 h2 => Exists.elim h2 (fun x2 h3 => Exists.elim h3 (fun x3 h4 => k x0 x1 x2 x3 h4.1 h4.2))))
theorem exE5 {α0 α1 α2 α3 α4 : Type} {A B : α0 → α1 → α2 → α3 → α4 → Prop} {G : Prop} (h : ∃ (x0 : α0) (x1 : α1) (x2 : α2) (x3 : α3) (x4 : α4), A x0 x1 x2 x3 x4 ∧ B x0 x1 x2 x3 x4) (k : ∀ (x0 : α0) (x1 : α1) (x2 : α2) (x3 : α3) (x4 : α4), A x0 x1 x2 x3 x4 → B x0 x1 x2 x3 x4 → G) : G := Exists.elim h (fun x0 h1 => Exists.elim h1 (fun x1 h2 => Exists.elim h2 (fun x2 h3 => Exists.elim h3 (fun x3 h4 => Exists.elim h4 (fun x4 h5 => k x0 x1 x2 x3 x4 h5.1 h5.2)))))
theorem exE6 {α0 α1 α2 α3 α4 α5 : Type} {A B : α0 → α1 → α2 → α3 → α4 → α5 → Prop} {G : Prop} (h : ∃ (x0 : α0) (x1 : α1) (x2 : α2) (x3 : α3) (x4 : α4) (x5 : α5), A x0 x1 x2 x3 x4 x5 ∧ B x0 x1 x2 x3 x4 x5) (k : ∀ (x0 : α0) (x1 : α1) (x2 : α2) (x3 : α3) (x4 : α4) (x5 : α5), A x0 x1 x2 x3 x4 x5 → B x0 x1 x2 x3 x4 x5 → G) : G := Exists.elim h (fun x0 h1 => Exists.elim h1 (fun x1 h2 => Exists.elim h2 (fun x2 h3 => Exists.elim h3 (fun x3 h4 => Exists.elim h4 (fun x4 h5 => Exists.elim h5 (fun x5 h6 => k x0 x1 x2 x3 x4 x5 h6.1 h6.2))))))
theorem exE7 {α0 α1 α2 α3 α4 α5 α6 : Type} {A B : α0 → α1 → α2 → α3 → α4 → α5 → α6 → Prop} {G : Prop} (h : ∃ (x0 : α0) (x1 : α1) (x2 : α2) (x3 : α3) (x4 : α4) (x5 : α5) (x6 : α6), A x0 x1 x2 x3 x4 x5 x6 ∧ B x0 x1 x2 x3 x4 x5 x6) (k : ∀ (x0 : α0) (x1 : α1) (x2 : α2) (x3 : α3) (x4 : α4) (x5 : α5) (x6 : α6), A x0 x1 x2 x3 x4 x5 x6 → B x0 x1 x2 x3 x4 x5 x6 → G) : G := Exists.elim h (fun x0 h1 => Exists.elim h1 (fun x1 h2 => Exists.elim h2 (fun x2 h3 => Exists.elim h3 (fun x3 h4 => Exists.elim h4 (fun x4 h5 => Exists.elim h5 (fun x5 h6 => Exists.elim h6 (fun x6 h7 => k x0 x1 x2 x3 x4 x5 x6 h7.1 h7.2)))))))
theorem exE8 {α0 α1 α2 α3 α4 α5 α6 α7 : Type} {A B : α0 → α1 → α2 → α3 → α4 → α5 → α6 → α7 → Prop} {G : Prop} (h : ∃ (x0 : α0) (x1 : α1) (x2 : α2) (x3 : α3) (x4 : α4) (x5 : α5) (x6 : α6) (x7 : α7), A x0 x1 x2 x3 x4 x5 x6 x7 ∧ B x0 x1 x2 x3 x4 x5 x6 x7) (k : ∀ (x0 : α0) (x1 : α1) (x2 : α2) (x3 : α3) (x4 : α4) (x5 : α5) (x6 : α6) (x7 : α7), A x0 x1 x2 x3 x4 x5 x6 x7 → B x0 x1 x2 x3 x4 x5 x6 x7 → G) : G := Exists.elim h (fun x0 h1 => Exists.elim h1 (fun x1 h2 => Exists.elim h2 (fun x2 h3 => Exists.elim h3 (fun x3 h4 => Exists.elim h4 (fun x4 h5 => Exists.elim h5 (fun x5 h6 => Exists.elim h6 (fun x6 h7 => Exists.elim h7 (fun x7 h8 => k x0 x1 x2 x3 x4 x5 x6 x7 h8.1 h8.2))))))))
theorem exE9 {α0 α1 α2 α3 α4 α5 α6 α7 α8 : Type} {A B : α0 → α1 → α2 → α3 → α4 → α5 → α6 → α7 → α8 → Prop} {G : Prop} (h : ∃ (x0 : α0) (x1 : α1) (x2 : α2) (x3 : α3) (x4 : α4) (x5 : α5) (x6 : α6) (x7 : α7) (x8 : α8), A x0 x1 x2 x3 x4 x5 x6 x7 x8 ∧ B x0 x1 x2 x3 x4 x5 x6 x7 x8) (k : ∀ (x0 : α0) (x1 : α1) (x2 : α2) (x3 : α3) (x4 : α4) (x5 : α5) (x6 : α6) (x7 : α7) (x8 : α8), A x0 x1 x2 x3 x4 x5 x6 x7 x8 → B x0 x1 x2 x3 x4 x5 x6 x7 x8 → G) : G := Exists.elim h (fun x0 h1 => Exists.elim h1 (fun x1 h2 => Exists.elim h2 (fun x2 h3 => Exists.elim h3 (fun x3 h4 => Exists.elim h4 (fun x4 h5 => Exists.elim h5 (fun x5 h6 => Exists.elim h6 (fun x6 h7 => Exists.elim h7 (fun x7 h8 => Exists.elim h8 (fun x8 h9 => k x0 x1 x2 x3 x4 x5 x6 x7 x8 h9.1 h9.2)))))))))
theorem exE10 {α0 α1 α2 α3 α4 α5 α6 α7 α8 α9 : Type} {A B : α0 → α1 → α2 → α3 → α4 → α5 → α6 → α7 → α8 → α9 → Prop} {G : Prop} (h : ∃ (x0 : α0) (x1 : α1) (x2 : α2) (x3 : α3) (x4 : α4) (x5 : α5) (x6 : α6) (x7 : α7) (x8 : α8) (x9 : α9), A x0 x1 x2 x3 x4 x5 x6 x7 x8 x9 ∧ B x0 x1 x2 x3 x4 x5 x6 x7 x8 x9) (k : ∀ (x0 : α0) (x1 : α1) (x2 : α2) (x3 : α3) (x4 : α4) (x5 : α5) (x6 : α6) (x7 : α7) (x8 : α8) (x9 : α9), A x0 x1 x2 x3 x4 x5 x6 x7 x8 x9 → B x0 x1 x2 x3 x4 x5 x6 x7 x8 x9 → G) : G := Exists.elim h (fun x0 h1 => Exists.elim h1 (fun x1 h2 => Exists.elim h2 (fun x2 h3 => Exists.elim h3 (fun x3 h4 => Exists.elim h4 (fun x4 h5 => Exists.elim h5 (fun x5 h6 => Exists.elim h6 (fun x6 h7 => Exists.elim h7 (fun x7 h8 => Exists.elim h8 (fun x8 h9 => Exists.elim h9 (fun x9 h10 => k x0 x1 x2 x3 x4 x5 x6 x7 x8 x9 h10.1 h10.2))))))))))
theorem exL10 {α0 α1 α2 α3 α4 α5 α6 α7 α8 α9 : Type} {B : α0 → α1 → α2 → α3 → α4 → α5 → α6 → α7 → α8 → α9 → Prop} {G : Prop} (h : ∃ (x0 : α0) (x1 : α1) (x2 : α2) (x3 : α3) (x4 : α4) (x5 : α5) (x6 : α6) (x7 : α7) (x8 : α8) (x9 : α9), B x0 x1 x2 x3 x4 x5 x6 x7 x8 x9) (k : ∀ (x0 : α0) (x1 : α1) (x2 : α2) (x3 : α3) (x4 : α4) (x5 : α5) (x6 : α6) (x7 : α7) (x8 : α8) (x9 : α9), B x0 x1 x2 x3 x4 x5 x6 x7 x8 x9 → G) : G := Exists.elim h (fun x0 h1 => Exists.elim h1 (fun x1 h2 => Exists.elim h2 (fun x2 h3 => Exists.elim h3 (fun x3 h4 => Exists.elim h4 (fun x4 h5 => Exists.elim h5 (fun x5 h6 => Exists.elim h6 (fun x6 h7 => Exists.elim h7 (fun x7 h8 => Exists.elim h8 (fun x8 h9 => Exists.elim h9 (fun x9 h10 => k x0 x1 x2 x3 x4 x5 x6 x7 x8 x9 h10))))))))))
theorem exE11 {α0 α1 α2 α3 α4 α5 α6 α7 α8 α9 α10 : Type} {A B : α0 → α1 → α2 → α3 → α4 → α5 → α6 → α7 → α8 → α9 → α10 → Prop} {G : Prop} (h : ∃ (x0 : α0) (x1 : α1) (x2 : α2) (x3 : α3) (x4 : α4) (x5 : α5) (x6 : α6) (x7 : α7) (x8 : α8) (x9 : α9) (x10 : α10), A x0 x1 x2 x3 x4 x5 x6 x7 x8 x9 x10 ∧ B x0 x1 x2 x3 x4 x5 x6 x7 x8 x9 x10) (k : ∀ (x0 : α0) (x1 : α1) (x2 : α2) (x3 : α3) (x4 : α4) (x5 : α5) (x6 : α6) (x7 : α7) (x8 : α8) (x9 : α9) (x10 : α10), A x0 x1 x2 x3 x4 x5 x6 x7 x8 x9 x10 → B x0 x1 x2 x3 x4 x5 x6 x7 x8 x9 x10 → G) : G := Exists.elim h (fun x0 h1 => Exists.elim h1 (fun x1 h2 => Exists.elim h2 (fun x2 h3 => Exists.elim h3 (fun x3 h4 => Exists.elim h4 (fun x4 h5 => Exists.elim h5 (fun x5 h6 => Exists.elim h6 (fun x6 h7 => Exists.elim h7 (fun x7 h8 => Exists.elim h8 (fun x8 h9 => Exists.elim h9 (fun x9 h10 => Exists.elim h10 (fun x10 h11 => k x0 x1 x2 x3 x4 x5 x6 x7 x8 x9 x10 h11.1 h11.2)))))))))))
theorem exL11 {α0 α1 α2 α3 α4 α5 α6 α7 α8 α9 α10 : Type} {B : α0 → α1 → α2 → α3 → α4 → α5 → α6 → α7 → α8 → α9 → α10 → Prop} {G : Prop} (h : ∃ (x0 : α0) (x1 : α1) (x2 : α2) (x3 : α3) (x4 : α4) (x5 : α5) (x6 : α6) (x7 : α7) (x8 : α8) (x9 : α9) (x10 : α10), B x0 x1 x2 x3 x4 x5 x6 x7 x8 x9 x10) (k : ∀ (x0 : α0) (x1 : α1) (x2 : α2) (x3 : α3) (x4 : α4) (x5 : α5) (x6 : α6) (x7 : α7) (x8 : α8) (x9 : α9) (x10 : α10), B x0 x1 x2 x3 x4 x5 x6 x7 x8 x9 x10 → G) : G := Exists.elim h (fun x0 h1 => Exists.elim h1 (fun x1 h2 => Exists.elim h2 (fun x2 h3 => Exists.elim h3 (fun x3 h4 => Exists.elim h4 (fun x4 h5 => Exists.elim h5 (fun x5 h6 => Exists.elim h6 (fun x6 h7 => Exists.elim h7 (fun x7 h8 => Exists.elim h8 (fun x8 h9 => Exists.elim h9 (fun x9 h10 => Exists.elim h10 (fun x10 h11 => k x0 x1 x2 x3 x4 x5 x6 x7 x8 x9 x10 h11)))))))))))
theorem exL12 {α0 α1 α2 α3 α4 α5 α6 α7 α8 α9 α10 α11 : Type} {B : α0 → α1 → α2 → α3 → α4 → α5 → α6 → α7 → α8 → α9 → α10 → α11 → Prop} {G : Prop} (h : ∃ (x0 : α0) (x1 : α1) (x2 : α2) (x3 : α3) (x4 : α4) (x5 : α5) (x6 : α6) (x7 : α7) (x8 : α8) (x9 : α9) (x10 : α10) (x11 : α11), B x0 x1 x2 x3 x4 x5 x6 x7 x8 x9 x10 x11) (k : ∀ (x0 : α0) (x1 : α1) (x2 : α2) (x3 : α3) (x4 : α4) (x5 : α5) (x6 : α6) (x7 : α7) (x8 : α8) (x9 : α9) (x10 : α10) (x11 : α11), B x0 x1 x2 x3 x4 x5 x6 x7 x8 x9 x10 x11 → G) : G := Exists.elim h (fun x0 h1 => Exists.elim h1 (fun x1 h2 => Exists.elim h2 (fun x2 h3 => Exists.elim h3 (fun x3 h4 => Exists.elim h4 (fun x4 h5 => Exists.elim h5 (fun x5 h6 => Exists.elim h6 (fun x6 h7 => Exists.elim h7 (fun x7 h8 => Exists.elim h8 (fun x8 h9 => Exists.elim h9 (fun x9 h10 => Exists.elim h10 (fun x10 h11 => Exists.elim h11 (fun x11 h12 => k x0 x1 x2 x3 x4 x5 x6 x7 x8 x9 x10 x11 h12))))))))))))
theorem exE13 {α0 α1 α2 α3 α4 α5 α6 α7 α8 α9 α10 α11 α12 : Type} {A B : α0 → α1 → α2 → α3 → α4 → α5 → α6 → α7 → α8 → α9 → α10 → α11 → α12 → Prop} {G : Prop} (h : ∃ (x0 : α0) (x1 : α1) (x2 : α2) (x3 : α3) (x4 : α4) (x5 : α5) (x6 : α6) (x7 : α7) (x8 : α8) (x9 : α9) (x10 : α10) (x11 : α11) (x12 : α12), A x0 x1 x2 x3 x4 x5 x6 x7 x8 x9 x10 x11 x12 ∧ B x0 x1 x2 x3 x4 x5 x6 x7 x8 x9 x10 x11 x12) (k : ∀ (x0 : α0) (x1 : α1) (x2 : α2) (x3 : α3) (x4 : α4) (x5 : α5) (x6 : α6) (x7 : α7) (x8 : α8) (x9 : α9) (x10 : α10) (x11 : α11) (x12 : α12), A x0 x1 x2 x3 x4 x5 x6 x7 x8 x9 x10 x11 x12 → B x0 x1 x2 x3 x4 x5 x6 x7 x8 x9 x10 x11 x12 → G) : G := Exists.elim h (fun x0 h1 => Exists.elim h1 (fun x1 h2 => Exists.elim h2 (fun x2 h3 => Exists.elim h3 (fun x3 h4 => Exists.elim h4 (fun x4 h5 => Exists.elim h5 (fun x5 h6 => Exists.elim h6 (fun x6 h7 => Exists.elim h7 (fun x7 h8 => Exists.elim h8 (fun x8 h9 => Exists.elim h9 (fun x9 h10 => Exists.elim h10 (fun x10 h11 => Exists.elim h11 (fun x11 h12 => Exists.elim h12 (fun x12 h13 => k x0 x1 x2 x3 x4 x5 x6 x7 x8 x9 x10 x11 x12 h13.1 h13.2)))))))))))))
theorem exL13 {α0 α1 α2 α3 α4 α5 α6 α7 α8 α9 α10 α11 α12 : Type} {B : α0 → α1 → α2 → α3 → α4 → α5 → α6 → α7 → α8 → α9 → α10 → α11 → α12 → Prop} {G : Prop} (h : ∃ (x0 : α0) (x1 : α1) (x2 : α2) (x3 : α3) (x4 : α4) (x5 : α5) (x6 : α6) (x7 : α7) (x8 : α8) (x9 : α9) (x10 : α10) (x11 : α11) (x12 : α12), B x0 x1 x2 x3 x4 x5 x6 x7 x8 x9 x10 x11 x12) (k : ∀ (x0 : α0) (x1 : α1) (x2 : α2) (x3 : α3) (x4 : α4) (x5 : α5) (x6 : α6) (x7 : α7) (x8 : α8) (x9 : α9) (x10 : α10) (x11 : α11) (x12 : α12), B x0 x1 x2 x3 x4 x5 x6 x7 x8 x9 x10 x11 x12 → G) : G := Exists.elim h (fun x0 h1 => Exists.elim h1 (fun x1 h2 => Exists.elim h2 (fun x2 h3 => Exists.elim h3 (fun x3 h4 => Exists.elim h4 (fun x4 h5 => Exists.elim h5 (fun x5 h6 => Exists.elim h6 (fun x6 h7 => Exists.elim h7 (fun x7 h8 => Exists.elim h8 (fun x8 h9 => Exists.elim h9 (fun x9 h10 => Exists.elim h10 (fun x10 h11 => Exists.elim h11 (fun x11 h12 => Exists.elim h12 (fun x12 h13 => k x0 x1 x2 x3 x4 x5 x6 x7 x8 x9 x10 x11 x12 h13)))))))))))))
theorem exE14 {α0 α1 α2 α3 α4 α5 α6 α7 α8 α9 α10 α11 α12 α13 : Type} {A B : α0 → α1 → α2 → α3 → α4 → α5 → α6 → α7 → α8 → α9 → α10 → α11 → α12 → α13 → Prop} {G : Prop} (h : ∃ (x0 : α0) (x1 : α1) (x2 : α2) (x3 : α3) (x4 : α4) (x5 : α5) (x6 : α6) (x7 : α7) (x8 : α8) (x9 : α9) (x10 : α10) (x11 : α11) (x12 : α12) (x13 : α13), A x0 x1 x2 x3 x4 x5 x6 x7 x8 x9 x10 x11 x12 x13 ∧ B x0 x1 x2 x3 x4 x5 x6 x7 x8 x9 x10 x11 x12 x13) (k : ∀ (x0 : α0) (x1 : α1) (x2 : α2) (x3 : α3) (x4 : α4) (x5 : α5) (x6 : α6) (x7 : α7) (x8 : α8) (x9 : α9) (x10 : α10) (x11 : α11) (x12 : α12) (x13 : α13), A x0 x1 x2 x3 x4 x5 x6 x7 x8 x9 x10 x11 x12 x13 → B x0 x1 x2 x3 x4 x5 x6 x7 x8 x9 x10 x11 x12 x13 → G) : G := Exists.elim h (fun x0 h1 => Exists.elim h1 (fun x1 h2 => Exists.elim h2 (fun x2 h3 => Exists.elim h3 (fun x3 h4 => Exists.elim h4 (fun x4 h5 => Exists.elim h5 (fun x5 h6 => Exists.elim h6 (fun x6 h7 => Exists.elim h7 (fun x7 h8 => Exists.elim h8 (fun x8 h9 => Exists.elim h9 (fun x9 h10 => Exists.elim h10 (fun x10 h11 => Exists.elim h11 (fun x11 h12 => Exists.elim h12 (fun x12 h13 => Exists.elim h13 (fun x13 h14 => k x0 x1 x2 x3 x4 x5 x6 x7 x8 x9 x10 x11 x12 x13 h14.1 h14.2))))))))))))))
theorem exL14 {α0 α1 α2 α3 α4 α5 α6 α7 α8 α9 α10 α11 α12 α13 : Type} {B : α0 → α1 → α2 → α3 → α4 → α5 → α6 → α7 → α8 → α9 → α10 → α11 → α12 → α13 → Prop} {G : Prop} (h : ∃ (x0 : α0) (x1 : α1) (x2 : α2) (x3 : α3) (x4 : α4) (x5 : α5) (x6 : α6) (x7 : α7) (x8 : α8) (x9 : α9) (x10 : α10) (x11 : α11) (x12 : α12) (x13 : α13), B x0 x1 x2 x3 x4 x5 x6 x7 x8 x9 x10 x11 x12 x13) (k : ∀ (x0 : α0) (x1 : α1) (x2 : α2) (x3 : α3) (x4 : α4) (x5 : α5) (x6 : α6) (x7 : α7) (x8 : α8) (x9 : α9) (x10 : α10) (x11 : α11) (x12 : α12) (x13 : α13), B x0 x1 x2 x3 x4 x5 x6 x7 x8 x9 x10 x11 x12 x13 → G) : G := Exists.elim h (fun x0 h1 => Exists.elim h1 (fun x1 h2 => Exists.elim h2 (fun x2 h3 => Exists.elim h3 (fun x3 h4 => Exists.elim h4 (fun x4 h5 => Exists.elim h5 (fun x5 h6 => Exists.elim h6 (fun x6 h7 => Exists.elim h7 (fun x7 h8 => Exists.elim h8 (fun x8 h9 => Exists.elim h9 (fun x9 h10 => Exists.elim h10 (fun x10 h11 => Exists.elim h11 (fun x11 h12 => Exists.elim h12 (fun x12 h13 => Exists.elim h13 (fun x13 h14 => k x0 x1 x2 x3 x4 x5 x6 x7 x8 x9 x10 x11 x12 x13 h14))))))))))))))
theorem exE15 {α0 α1 α2 α3 α4 α5 α6 α7 α8 α9 α10 α11 α12 α13 α14 : Type} {A B : α0 → α1 → α2 → α3 → α4 → α5 → α6 → α7 → α8 → α9 → α10 → α11 → α12 → α13 → α14 → Prop} {G : Prop} (h : ∃ (x0 : α0) (x1 : α1) (x2 : α2) (x3 : α3) (x4 : α4) (x5 : α5) (x6 : α6) (x7 : α7) (x8 : α8) (x9 : α9) (x10 : α10) (x11 : α11) (x12 : α12) (x13 : α13) (x14 : α14), A x0 x1 x2 x3 x4 x5 x6 x7 x8 x9 x10 x11 x12 x13 x14 ∧ B x0 x1 x2 x3 x4 x5 x6 x7 x8 x9 x10 x11 x12 x13 x14) (k : ∀ (x0 : α0) (x1 : α1) (x2 : α2) (x3 : α3) (x4 : α4) (x5 : α5) (x6 : α6) (x7 : α7) (x8 : α8) (x9 : α9) (x10 : α10) (x11 : α11) (x12 : α12) (x13 : α13) (x14 : α14), A x0 x1 x2 x3 x4 x5 x6 x7 x8 x9 x10 x11 x12 x13 x14 → B x0 x1 x2 x3 x4 x5 x6 x7 x8 x9 x10 x11 x12 x13 x14 → G) : G := Exists.elim h (fun x0 h1 => Exists.elim h1 (fun x1 h2 => Exists.elim h2 (fun x2 h3 => Exists.elim h3 (fun x3 h4 => Exists.elim h4 (fun x4 h5 => Exists.elim h5 (fun x5 h6 => Exists.elim h6 (fun x6 h7 => Exists.elim h7 (fun x7 h8 => Exists.elim h8 (fun x8 h9 => Exists.elim h9 (fun x9 h10 => Exists.elim h10 (fun x10 h11 => Exists.elim h11 (fun x11 h12 => Exists.elim h12 (fun x12 h13 => Exists.elim h13 (fun x13 h14 => Exists.elim h14 (fun x14 h15 => k x0 x1 x2 x3 x4 x5 x6 x7 x8 x9 x10 x11 x12 x13 x14 h15.1 h15.2)))))))))))))))
theorem exL23 {α0 α1 α2 α3 α4 α5 α6 α7 α8 α9 α10 α11 α12 α13 α14 α15 α16 α17 α18 α19 α20 α21 α22 : Type} {B : α0 → α1 → α2 → α3 → α4 → α5 → α6 → α7 → α8 → α9 → α10 → α11 → α12 → α13 → α14 → α15 → α16 → α17 → α18 → α19 → α20 → α21 → α22 → Prop} {G : Prop} (h : ∃ (x0 : α0) (x1 : α1) (x2 : α2) (x3 : α3) (x4 : α4) (x5 : α5) (x6 : α6) (x7 : α7) (x8 : α8) (x9 : α9) (x10 : α10) (x11 : α11) (x12 : α12) (x13 : α13) (x14 : α14) (x15 : α15) (x16 : α16) (x17 : α17) (x18 : α18) (x19 : α19) (x20 : α20) (x21 : α21) (x22 : α22), B x0 x1 x2 x3 x4 x5 x6 x7 x8 x9 x10 x11 x12 x13 x14 x15 x16 x17 x18 x19 x20 x21 x22) (k : ∀ (x0 : α0) (x1 : α1) (x2 : α2) (x3 : α3) (x4 : α4) (x5 : α5) (x6 : α6) (x7 : α7) (x8 : α8) (x9 : α9) (x10 : α10) (x11 : α11) (x12 : α12) (x13 : α13) (x14 : α14) (x15 : α15) (x16 : α16) (x17 : α17) (x18 : α18) (x19 : α19) (x20 : α20) (x21 : α21) (x22 : α22), B x0 x1 x2 x3 x4 x5 x6 x7 x8 x9 x10 x11 x12 x13 x14 x15 x16 x17 x18 x19 x20 x21 x22 → G) : G := Exists.elim h (fun x0 h1 => Exists.elim h1 (fun x1 h2 => Exists.elim h2 (fun x2 h3 => Exists.elim h3 (fun x3 h4 => Exists.elim h4 (fun x4 h5 => Exists.elim h5 (fun x5 h6 => Exists.elim h6 (fun x6 h7 => Exists.elim h7 (fun x7 h8 => Exists.elim h8 (fun x8 h9 => Exists.elim h9 (fun x9 h10 => Exists.elim h10 (fun x10 h11 => Exists.elim h11 (fun x11 h12 => Exists.elim h12 (fun x12 h13 => Exists.elim h13 (fun x13 h14 => Exists.elim h14 (fun x14 h15 => Exists.elim h15 (fun x15 h16 => Exists.elim h16 (fun x16 h17 => Exists.elim h17 (fun x17 h18 => Exists.elim h18 (fun x18 h19 => Exists.elim h19 (fun x19 h20 => Exists.elim h20 (fun x20 h21 => Exists.elim h21 (fun x21 h22 => Exists.elim h22 (fun x22 h23 => k x0 x1 x2 x3 x4 x5 x6 x7 x8 x9 x10 x11 x12 x13 x14 x15 x16 x17 x18 x19 x20 x21 x22 h23)))))))))))))))))))))))
theorem exE24 {α0 α1 α2 α3 α4 α5 α6 α7 α8 α9 α10 α11 α12 α13 α14 α15 α16 α17 α18 α19 α20 α21 α22 α23 : Type} {A B : α0 → α1 → α2 → α3 → α4 → α5 → α6 → α7 → α8 → α9 → α10 → α11 → α12 → α13 → α14 → α15 → α16 → α17 → α18 → α19 → α20 → α21 → α22 → α23 → Prop} {G : Prop} (h : ∃ (x0 : α0) (x1 : α1) (x2 : α2) (x3 : α3) (x4 : α4) (x5 : α5) (x6 : α6) (x7 : α7) (x8 : α8) (x9 : α9) (x10 : α10) (x11 : α11) (x12 : α12) (x13 : α13) (x14 : α14) (x15 : α15) (x16 : α16) (x17 : α17) (x18 : α18) (x19 : α19) (x20 : α20) (x21 : α21) (x22 : α22) (x23 : α23), A x0 x1 x2 x3 x4 x5 x6 x7 x8 x9 x10 x11 x12 x13 x14 x15 x16 x17 x18 x19 x20 x21 x22 x23 ∧ B x0 x1 x2 x3 x4 x5 x6 x7 x8 x9 x10 x11 x12 x13 x14 x15 x16 x17 x18 x19 x20 x21 x22 x23) (k : ∀ (x0 : α0) (x1 : α1) (x2 : α2) (x3 : α3) (x4 : α4) (x5 : α5) (x6 : α6) (x7 : α7) (x8 : α8) (x9 : α9) (x10 : α10) (x11 : α11) (x12 : α12) (x13 : α13) (x14 : α14) (x15 : α15) (x16 : α16) (x17 : α17) (x18 : α18) (x19 : α19) (x20 : α20) (x21 : α21) (x22 : α22) (x23 : α23), A x0 x1 x2 x3 x4 x5 x6 x7 x8 x9 x10 x11 x12 x13 x14 x15 x16 x17 x18 x19 x20 x21 x22 x23 → B x0 x1 x2 x3 x4 x5 x6 x7 x8 x9 x10 x11 x12 x13 x14 x15 x16 x17 x18 x19 x20 x21 x22 x23 → G) : G := Exists.elim h (fun x0 h1 => Exists.elim h1 (fun x1 h2 => Exists.elim h2 (fun x2 h3 => Exists.elim h3 (fun x3 h4 => Exists.elim h4 (fun x4 h5 => Exists.elim h5 (fun x5 h6 => Exists.elim h6 (fun x6 h7 => Exists.elim h7 (fun x7 h8 => Exists.elim h8 (fun x8 h9 => Exists.elim h9 (fun x9 h10 => Exists.elim h10 (fun x10 h11 => Exists.elim h11 (fun x11 h12 => Exists.elim h12 (fun x12 h13 => Exists.elim h13 (fun x13 h14 => Exists.elim h14 (fun x14 h15 => Exists.elim h15 (fun x15 h16 => Exists.elim h16 (fun x16 h17 => Exists.elim h17 (fun x17 h18 => Exists.elim h18 (fun x18 h19 => Exists.elim h19 (fun x19 h20 => Exists.elim h20 (fun x20 h21 => Exists.elim h21 (fun x21 h22 => Exists.elim h22 (fun x22 h23 => Exists.elim h23 (fun x23 h24 => k x0 x1 x2 x3 x4 x5 x6 x7 x8 x9 x10 x11 x12 x13 x14 x15 x16 x17 x18 x19 x20 x21 x22 x23 h24.1 h24.2))))))))))))))))))))))))
theorem exL24 {α0 α1 α2 α3 α4 α5 α6 α7 α8 α9 α10 α11 α12 α13 α14 α15 α16 α17 α18 α19 α20 α21 α22 α23 : Type} {B : α0 → α1 → α2 → α3 → α4 → α5 → α6 → α7 → α8 → α9 → α10 → α11 → α12 → α13 → α14 → α15 → α16 → α17 → α18 → α19 → α20 → α21 → α22 → α23 → Prop} {G : Prop} (h : ∃ (x0 : α0) (x1 : α1) (x2 : α2) (x3 : α3) (x4 : α4) (x5 : α5) (x6 : α6) (x7 : α7) (x8 : α8) (x9 : α9) (x10 : α10) (x11 : α11) (x12 : α12) (x13 : α13) (x14 : α14) (x15 : α15) (x16 : α16) (x17 : α17) (x18 : α18) (x19 : α19) (x20 : α20) (x21 : α21) (x22 : α22) (x23 : α23), B x0 x1 x2 x3 x4 x5 x6 x7 x8 x9 x10 x11 x12 x13 x14 x15 x16 x17 x18 x19 x20 x21 x22 x23) (k : ∀ (x0 : α0) (x1 : α1) (x2 : α2) (x3 : α3) (x4 : α4) (x5 : α5) (x6 : α6) (x7 : α7) (x8 : α8) (x9 : α9) (x10 : α10) (x11 : α11) (x12 : α12) (x13 : α13) (x14 : α14) (x15 : α15) (x16 : α16) (x17 : α17) (x18 : α18) (x19 : α19) (x20 : α20) (x21 : α21) (x22 : α22) (x23 : α23), B x0 x1 x2 x3 x4 x5 x6 x7 x8 x9 x10 x11 x12 x13 x14 x15 x16 x17 x18 x19 x20 x21 x22 x23 → G) : G := Exists.elim h (fun x0 h1 => Exists.elim h1 (fun x1 h2 => Exists.elim h2 (fun x2 h3 => Exists.elim h3 (fun x3 h4 => Exists.elim h4 (fun x4 h5 => Exists.elim h5 (fun x5 h6 => Exists.elim h6 (fun x6 h7 => Exists.elim h7 (fun x7 h8 => Exists.elim h8 (fun x8 h9 => Exists.elim h9 (fun x9 h10 => Exists.elim h10 (fun x10 h11 => Exists.elim h11 (fun x11 h12 => Exists.elim h12 (fun x12 h13 => Exists.elim h13 (fun x13 h14 => Exists.elim h14 (fun x14 h15 => Exists.elim h15 (fun x15 h16 => Exists.elim h16 (fun x16 h17 => Exists.elim h17 (fun x17 h18 => Exists.elim h18 (fun x18 h19 => Exists.elim h19 (fun x19 h20 => Exists.elim h20 (fun x20 h21 => Exists.elim h21 (fun x21 h22 => Exists.elim h22 (fun x22 h23 => Exists.elim h23 (fun x23 h24 => k x0 x1 x2 x3 x4 x5 x6 x7 x8 x9 x10 x11 x12 x13 x14 x15 x16 x17 x18 x19 x20 x21 x22 x23 h24))))))))))))))))))))))))
theorem exL28 {α0 α1 α2 α3 α4 α5 α6 α7 α8 α9 α10 α11 α12 α13 α14 α15 α16 α17 α18 α19 α20 α21 α22 α23 α24 α25 α26 α27 : Type} {B : α0 → α1 → α2 → α3 → α4 → α5 → α6 → α7 → α8 → α9 → α10 → α11 → α12 → α13 → α14 → α15 → α16 → α17 → α18 → α19 → α20 → α21 → α22 → α23 → α24 → α25 → α26 → α27 → Prop} {G : Prop} (h : ∃ (x0 : α0) (x1 : α1) (x2 : α2) (x3 : α3) (x4 : α4) (x5 : α5) (x6 : α6) (x7 : α7) (x8 : α8) (x9 : α9) (x10 : α10) (x11 : α11) (x12 : α12) (x13 : α13) (x14 : α14) (x15 : α15) (x16 : α16) (x17 : α17) (x18 : α18) (x19 : α19) (x20 : α20) (x21 : α21) (x22 : α22) (x23 : α23) (x24 : α24) (x25 : α25) (x26 : α26) (x27 : α27), B x0 x1 x2 x3 x4 x5 x6 x7 x8 x9 x10 x11 x12 x13 x14 x15 x16 x17 x18 x19 x20 x21 x22 x23 x24 x25 x26 x27) (k : ∀ (x0 : α0) (x1 : α1) (x2 : α2) (x3 : α3) (x4 : α4) (x5 : α5) (x6 : α6) (x7 : α7) (x8 : α8) (x9 : α9) (x10 : α10) (x11 : α11) (x12 : α12) (x13 : α13) (x14 : α14) (x15 : α15) (x16 : α16) (x17 : α17) (x18 : α18) (x19 : α19) (x20 : α20) (x21 : α21) (x22 : α22) (x23 : α23) (x24 : α24) (x25 : α25) (x26 : α26) (x27 : α27), B x0 x1 x2 x3 x4 x5 x6 x7 x8 x9 x10 x11 x12 x13 x14 x15 x16 x17 x18 x19 x20 x21 x22 x23 x24 x25 x26 x27 → G) : G := Exists.elim h (fun x0 h1 => Exists.elim h1 (fun x1 h2 => Exists.elim h2 (fun x2 h3 => Exists.elim h3 (fun x3 h4 => Exists.elim h4 (fun x4 h5 => Exists.elim h5 (fun x5 h6 => Exists.elim h6 (fun x6 h7 => Exists.elim h7 (fun x7 h8 => Exists.elim h8 (fun x8 h9 => Exists.elim h9 (fun x9 h10 => Exists.elim h10 (fun x10 h11 => Exists.elim h11 (fun x11 h12 => Exists.elim h12 (fun x12 h13 => Exists.elim h13 (fun x13 h14 => Exists.elim h14 (fun x14 h15 => Exists.elim h15 (fun x15 h16 => Exists.elim h16 (fun x16 h17 => Exists.elim h17 (fun x17 h18 => Exists.elim h18 (fun x18 h19 => Exists.elim h19 (fun x19 h20 => Exists.elim h20 (fun x20 h21 => Exists.elim h21 (fun x21 h22 => Exists.elim h22 (fun x22 h23 => Exists.elim h23 (fun x23 h24 => Exists.elim h24 (fun x24 h25 => Exists.elim h25 (fun x25 h26 => Exists.elim h26 (fun x26 h27 => Exists.elim h27 (fun x27 h28 => k x0 x1 x2 x3 x4 x5 x6 x7 x8 x9 x10 x11 x12 x13 x14 x15 x16 x17 x18 x19 x20 x21 x22 x23 x24 x25 x26 x27 h28))))))))))))))))))))))))))))
theorem exE33 {α0 α1 α2 α3 α4 α5 α6 α7 α8 α9 α10 α11 α12 α13 α14 α15 α16 α17 α18 α19 α20 α21 α22 α23 α24 α25 α26 α27 α28 α29 α30 α31 α32 : Type} {A B : α0 → α1 → α2 → α3 → α4 → α5 → α6 → α7 → α8 → α9 → α10 → α11 → α12 → α13 → α14 → α15 → α16 → α17 → α18 → α19 → α20 → α21 → α22 → α23 → α24 → α25 → α26 → α27 → α28 → α29 → α30 → α31 → α32 → Prop} {G : Prop} (h : ∃ (x0 : α0) (x1 : α1) (x2 : α2) (x3 : α3) (x4 : α4) (x5 : α5) (x6 : α6) (x7 : α7) (x8 : α8) (x9 : α9) (x10 : α10) (x11 : α11) (x12 : α12) (x13 : α13) (x14 : α14) (x15 : α15) (x16 : α16) (x17 : α17) (x18 : α18) (x19 : α19) (x20 : α20) (x21 : α21) (x22 : α22) (x23 : α23) (x24 : α24) (x25 : α25) (x26 : α26) (x27 : α27) (x28 : α28) (x29 : α29) (x30 : α30) (x31 : α31) (x32 : α32), A x0 x1 x2 x3 x4 x5 x6 x7 x8 x9 x10 x11 x12 x13 x14 x15 x16 x17 x18 x19 x20 x21 x22 x23 x24 x25 x26 x27 x28 x29 x30 x31 x32 ∧ B x0 x1 x2 x3 x4 x5 x6 x7 x8 x9 x10 x11 x12 x13 x14 x15 x16 x17 x18 x19 x20 x21 x22 x23 x24 x25 x26 x27 x28 x29 x30 x31 x32) (k : ∀ (x0 : α0) (x1 : α1) (x2 : α2) (x3 : α3) (x4 : α4) (x5 : α5) (x6 : α6) (x7 : α7) (x8 : α8) (x9 : α9) (x10 : α10) (x11 : α11) (x12 : α12) (x13 : α13) (x14 : α14) (x15 : α15) (x16 : α16) (x17 : α17) (x18 : α18) (x19 : α19) (x20 : α20) (x21 : α21) (x22 : α22) (x23 : α23) (x24 : α24) (x25 : α25) (x26 : α26) (x27 : α27) (x28 : α28) (x29 : α29) (x30 : α30) (x31 : α31) (x32 : α32), A x0 x1 x2 x3 x4 x5 x6 x7 x8 x9 x10 x11 x12 x13 x14 x15 x16 x17 x18 x19 x20 x21 x22 x23 x24 x25 x26 x27 x28 x29 x30 x31 x32 → B x0 x1 x2 x3 x4 x5 x6 x7 x8 x9 x10 x11 x12 x13 x14 x15 x16 x17 x18 x19 x20 x21 x22 x23 x24 x25 x26 x27 x28 x29 x30 x31 x32 → G) : G := Exists.elim h (fun x0 h1 => Exists.elim h1 (fun x1 h2 => Exists.elim h2 (fun x2 h3 => Exists.elim h3 (fun x3 h4 => Exists.elim h4 (fun x4 h5 => Exists.elim h5 (fun x5 h6 => Exists.elim h6 (fun x6 h7 => Exists.elim h7 (fun x7 h8 => Exists.elim h8 (fun x8 h9 => Exists.elim h9 (fun x9 h10 => Exists.elim h10 (fun x10 h11 => Exists.elim h11 (fun x11 h12 => Exists.elim h12 (fun x12 h13 => Exists.elim h13 (fun x13 h14 => Exists.elim h14 (fun x14 h15 => Exists.elim h15 (fun x15 h16 => Exists.elim h16 (fun x16 h17 => Exists.elim h17 (fun x17 h18 => Exists.elim h18 (fun x18 h19 => Exists.elim h19 (fun x19 h20 => Exists.elim h20 (fun x20 h21 => Exists.elim h21 (fun x21 h22 => Exists.elim h22 (fun x22 h23 => Exists.elim h23 (fun x23 h24 => Exists.elim h24 (fun x24 h25 => Exists.elim h25 (fun x25 h26 => Exists.elim h26 (fun x26 h27 => Exists.elim h27 (fun x27 h28 => Exists.elim h28 (fun x28 h29 => Exists.elim h29 (fun x29 h30 => Exists.elim h30 (fun x30 h31 => Exists.elim h31 (fun x31 h32 => Exists.elim h32 (fun x32 h33 => k x0 x1 x2 x3 x4 x5 x6 x7 x8 x9 x10 x11 x12 x13 x14 x15 x16 x17 x18 x19 x20 x21 x22 x23 x24 x25 x26 x27 x28 x29 x30 x31 x32 h33.1 h33.2)))))))))))))))))))))))))))))))))
theorem exE34 {α0 α1 α2 α3 α4 α5 α6 α7 α8 α9 α10 α11 α12 α13 α14 α15 α16 α17 α18 α19 α20 α21 α22 α23 α24 α25 α26 α27 α28 α29 α30 α31 α32 α33 : Type} {A B : α0 → α1 → α2 → α3 → α4 → α5 → α6 → α7 → α8 → α9 → α10 → α11 → α12 → α13 → α14 → α15 → α16 → α17 → α18 → α19 → α20 → α21 → α22 → α23 → α24 → α25 → α26 → α27 → α28 → α29 → α30 → α31 → α32 → α33 → Prop} {G : Prop} (h : ∃ (x0 : α0) (x1 : α1) (x2 : α2) (x3 : α3) (x4 : α4) (x5 : α5) (x6 : α6) (x7 : α7) (x8 : α8) (x9 : α9) (x10 : α10) (x11 : α11) (x12 : α12) (x13 : α13) (x14 : α14) (x15 : α15) (x16 : α16) (x17 : α17) (x18 : α18) (x19 : α19) (x20 : α20) (x21 : α21) (x22 : α22) (x23 : α23) (x24 : α24) (x25 : α25) (x26 : α26) (x27 : α27) (x28 : α28) (x29 : α29) (x30 : α30) (x31 : α31) (x32 : α32) (x33 : α33), A x0 x1 x2 x3 x4 x5 x6 x7 x8 x9 x10 x11 x12 x13 x14 x15 x16 x17 x18 x19 x20 x21 x22 x23 x24 x25 x26 x27 x28 x29 x30 x31 x32 x33 ∧ B x0 x1 x2 x3 x4 x5 x6 x7 x8 x9 x10 x11 x12 x13 x14 x15 x16 x17 x18 x19 x20 x21 x22 x23 x24 x25 x26 x27 x28 x29 x30 x31 x32 x33) (k : ∀ (x0 : α0) (x1 : α1) (x2 : α2) (x3 : α3) (x4 : α4) (x5 : α5) (x6 : α6) (x7 : α7) (x8 : α8) (x9 : α9) (x10 : α10) (x11 : α11) (x12 : α12) (x13 : α13) (x14 : α14) (x15 : α15) (x16 : α16) (x17 : α17) (x18 : α18) (x19 : α19) (x20 : α20) (x21 : α21) (x22 : α22) (x23 : α23) (x24 : α24) (x25 : α25) (x26 : α26) (x27 : α27) (x28 : α28) (x29 : α29) (x30 : α30) (x31 : α31) (x32 : α32) (x33 : α33), A x0 x1 x2 x3 x4 x5 x6 x7 x8 x9 x10 x11 x12 x13 x14 x15 x16 x17 x18 x19 x20 x21 x22 x23 x24 x25 x26 x27 x28 x29 x30 x31 x32 x33 → B x0 x1 x2 x3 x4 x5 x6 x7 x8 x9 x10 x11 x12 x13 x14 x15 x16 x17 x18 x19 x20 x21 x22 x23 x24 x25 x26 x27 x28 x29 x30 x31 x32 x33 → G) : G := Exists.elim h (fun x0 h1 => Exists.elim h1 (fun x1 h2 => Exists.elim h2 (fun x2 h3 => Exists.elim h3 (fun x3 h4 => Exists.elim h4 (fun x4 h5 => Exists.elim h5 (fun x5 h6 => Exists.elim h6 (fun x6 h7 => Exists.elim h7 (fun x7 h8 => Exists.elim h8 (fun x8 h9 => Exists.elim h9 (fun x9 h10 => Exists.elim h10 (fun x10 h11 => Exists.elim h11 (fun x11 h12 => Exists.elim h12 (fun x12 h13 => Exists.elim h13 (fun x13 h14 => Exists.elim h14 (fun x14 h15 => Exists.elim h15 (fun x15 h16 => Exists.elim h16 (fun x16 h17 => Exists.elim h17 (fun x17 h18 => Exists.elim h18 (fun x18 h19 => Exists.elim h19 (fun x19 h20 => Exists.elim h20 (fun x20 h21 => Exists.elim h21 (fun x21 h22 => Exists.elim h22 (fun x22 h23 => Exists.elim h23 (fun x23 h24 => Exists.elim h24 (fun x24 h25 => Exists.elim h25 (fun x25 h26 => Exists.elim h26 (fun x26 h27 => Exists.elim h27 (fun x27 h28 => Exists.elim h28 (fun x28 h29 => Exists.elim h29 (fun x29 h30 => Exists.elim h30 (fun x30 h31 => Exists.elim h31 (fun x31 h32 => Exists.elim h32 (fun x32 h33 => Exists.elim h33 (fun x33 h34 => k x0 x1 x2 x3 x4 x5 x6 x7 x8 x9 x10 x11 x12 x13 x14 x15 x16 x17 x18 x19 x20 x21 x22 x23 x24 x25 x26 x27 x28 x29 x30 x31 x32 x33 h34.1 h34.2))))))))))))))))))))))))))))))))))
theorem exE36 {α0 α1 α2 α3 α4 α5 α6 α7 α8 α9 α10 α11 α12 α13 α14 α15 α16 α17 α18 α19 α20 α21 α22 α23 α24 α25 α26 α27 α28 α29 α30 α31 α32 α33 α34 α35 : Type} {A B : α0 → α1 → α2 → α3 → α4 → α5 → α6 → α7 → α8 → α9 → α10 → α11 → α12 → α13 → α14 → α15 → α16 → α17 → α18 → α19 → α20 → α21 → α22 → α23 → α24 → α25 → α26 → α27 → α28 → α29 → α30 → α31 → α32 → α33 → α34 → α35 → Prop} {G : Prop} (h : ∃ (x0 : α0) (x1 : α1) (x2 : α2) (x3 : α3) (x4 : α4) (x5 : α5) (x6 : α6) (x7 : α7) (x8 : α8) (x9 : α9) (x10 : α10) (x11 : α11) (x12 : α12) (x13 : α13) (x14 : α14) (x15 : α15) (x16 : α16) (x17 : α17) (x18 : α18) (x19 : α19) (x20 : α20) (x21 : α21) (x22 : α22) (x23 : α23) (x24 : α24) (x25 : α25) (x26 : α26) (x27 : α27) (x28 : α28) (x29 : α29) (x30 : α30) (x31 : α31) (x32 : α32) (x33 : α33) (x34 : α34) (x35 : α35), A x0 x1 x2 x3 x4 x5 x6 x7 x8 x9 x10 x11 x12 x13 x14 x15 x16 x17 x18 x19 x20 x21 x22 x23 x24 x25 x26 x27 x28 x29 x30 x31 x32 x33 x34 x35 ∧ B x0 x1 x2 x3 x4 x5 x6 x7 x8 x9 x10 x11 x12 x13 x14 x15 x16 x17 x18 x19 x20 x21 x22 x23 x24 x25 x26 x27 x28 x29 x30 x31 x32 x33 x34 x35) (k : ∀ (x0 : α0) (x1 : α1) (x2 : α2) (x3 : α3) (x4 : α4) (x5 : α5) (x6 : α6) (x7 : α7) (x8 : α8) (x9 : α9) (x10 : α10) (x11 : α11) (x12 : α12) (x13 : α13) (x14 : α14) (x15 : α15) (x16 : α16) (x17 : α17) (x18 : α18) (x19 : α19) (x20 : α20) (x21 : α21) (x22 : α22) (x23 : α23) (x24 : α24) (x25 : α25) (x26 : α26) (x27 : α27) (x28 : α28) (x29 : α29) (x30 : α30) (x31 : α31) (x32 : α32) (x33 : α33) (x34 : α34) (x35 : α35), A x0 x1 x2 x3 x4 x5 x6 x7 x8 x9 x10 x11 x12 x13 x14 x15 x16 x17 x18 x19 x20 x21 x22 x23 x24 x25 x26 x27 x28 x29 x30 x31 x32 x33 x34 x35 → B x0 x1 x2 x3 x4 x5 x6 x7 x8 x9 x10 x11 x12 x13 x14 x15 x16 x17 x18 x19 x20 x21 x22 x23 x24 x25 x26 x27 x28 x29 x30 x31 x32 x33 x34 x35 → G) : G := Exists.elim h (fun x0 h1 => Exists.elim h1 (fun x1 h2 => Exists.elim h2 (fun x2 h3 => Exists.elim h3 (fun x3 h4 => Exists.elim h4 (fun x4 h5 => Exists.elim h5 (fun x5 h6 => Exists.elim h6 (fun x6 h7 => Exists.elim h7 (fun x7 h8 => Exists.elim h8 (fun x8 h9 => Exists.elim h9 (fun x9 h10 => Exists.elim h10 (fun x10 h11 => Exists.elim h11 (fun x11 h12 => Exists.elim h12 (fun x12 h13 => Exists.elim h13 (fun x13 h14 => Exists.elim h14 (fun x14 h15 => Exists.elim h15 (fun x15 h16 => Exists.elim h16 (fun x16 h17 => Exists.elim h17 (fun x17 h18 => Exists.elim h18 (fun x18 h19 => Exists.elim h19 (fun x19 h20 => Exists.elim h20 (fun x20 h21 => Exists.elim h21 (fun x21 h22 => Exists.elim h22 (fun x22 h23 => Exists.elim h23 (fun x23 h24 => Exists.elim h24 (fun x24 h25 => Exists.elim h25 (fun x25 h26 => Exists.elim h26 (fun x26 h27 => Exists.elim h27 (fun x27 h28 => Exists.elim h28 (fun x28 h29 => Exists.elim h29 (fun x29 h30 => Exists.elim h30 (fun x30 h31 => Exists.elim h31 (fun x31 h32 => Exists.elim h32 (fun x32 h33 => Exists.elim h33 (fun x33 h34 => Exists.elim h34 (fun x34 h35 => Exists.elim h35 (fun x35 h36 => k x0 x1 x2 x3 x4 x5 x6 x7 x8 x9 x10 x11 x12 x13 x14 x15 x16 x17 x18 x19 x20 x21 x22 x23 x24 x25 x26 x27 x28 x29 x30 x31 x32 x33 x34 x35 h36.1 h36.2))))))))))))))))))))))))))))))))))))
theorem exL36 {α0 α1 α2 α3 α4 α5 α6 α7 α8 α9 α10 α11 α12 α13 α14 α15 α16 α17 α18 α19 α20 α21 α22 α23 α24 α25 α26 α27 α28 α29 α30 α31 α32 α33 α34 α35 : Type} {B : α0 → α1 → α2 → α3 → α4 → α5 → α6 → α7 → α8 → α9 → α10 → α11 → α12 → α13 → α14 → α15 → α16 → α17 → α18 → α19 → α20 → α21 → α22 → α23 → α24 → α25 → α26 → α27 → α28 → α29 → α30 → α31 → α32 → α33 → α34 → α35 → Prop} {G : Prop} (h : ∃ (x0 : α0) (x1 : α1) (x2 : α2) (x3 : α3) (x4 : α4) (x5 : α5) (x6 : α6) (x7 : α7) (x8 : α8) (x9 : α9) (x10 : α10) (x11 : α11) (x12 : α12) (x13 : α13) (x14 : α14) (x15 : α15) (x16 : α16) (x17 : α17) (x18 : α18) (x19 : α19) (x20 : α20) (x21 : α21) (x22 : α22) (x23 : α23) (x24 : α24) (x25 : α25) (x26 : α26) (x27 : α27) (x28 : α28) (x29 : α29) (x30 : α30) (x31 : α31) (x32 : α32) (x33 : α33) (x34 : α34) (x35 : α35), B x0 x1 x2 x3 x4 x5 x6 x7 x8 x9 x10 x11 x12 x13 x14 x15 x16 x17 x18 x19 x20 x21 x22 x23 x24 x25 x26 x27 x28 x29 x30 x31 x32 x33 x34 x35) (k : ∀ (x0 : α0) (x1 : α1) (x2 : α2) (x3 : α3) (x4 : α4) (x5 : α5) (x6 : α6) (x7 : α7) (x8 : α8) (x9 : α9) (x10 : α10) (x11 : α11) (x12 : α12) (x13 : α13) (x14 : α14) (x15 : α15) (x16 : α16) (x17 : α17) (x18 : α18) (x19 : α19) (x20 : α20) (x21 : α21) (x22 : α22) (x23 : α23) (x24 : α24) (x25 : α25) (x26 : α26) (x27 : α27) (x28 : α28) (x29 : α29) (x30 : α30) (x31 : α31) (x32 : α32) (x33 : α33) (x34 : α34) (x35 : α35), B x0 x1 x2 x3 x4 x5 x6 x7 x8 x9 x10 x11 x12 x13 x14 x15 x16 x17 x18 x19 x20 x21 x22 x23 x24 x25 x26 x27 x28 x29 x30 x31 x32 x33 x34 x35 → G) : G := Exists.elim h (fun x0 h1 => Exists.elim h1 (fun x1 h2 => Exists.elim h2 (fun x2 h3 => Exists.elim h3 (fun x3 h4 => Exists.elim h4 (fun x4 h5 => Exists.elim h5 (fun x5 h6 => Exists.elim h6 (fun x6 h7 => Exists.elim h7 (fun x7 h8 => Exists.elim h8 (fun x8 h9 => Exists.elim h9 (fun x9 h10 => Exists.elim h10 (fun x10 h11 => Exists.elim h11 (fun x11 h12 => Exists.elim h12 (fun x12 h13 => Exists.elim h13 (fun x13 h14 => Exists.elim h14 (fun x14 h15 => Exists.elim h15 (fun x15 h16 => Exists.elim h16 (fun x16 h17 => Exists.elim h17 (fun x17 h18 => Exists.elim h18 (fun x18 h19 => Exists.elim h19 (fun x19 h20 => Exists.elim h20 (fun x20 h21 => Exists.elim h21 (fun x21 h22 => Exists.elim h22 (fun x22 h23 => Exists.elim h23 (fun x23 h24 => Exists.elim h24 (fun x24 h25 => Exists.elim h25 (fun x25 h26 => Exists.elim h26 (fun x26 h27 => Exists.elim h27 (fun x27 h28 => Exists.elim h28 (fun x28 h29 => Exists.elim h29 (fun x29 h30 => Exists.elim h30 (fun x30 h31 => Exists.elim h31 (fun x31 h32 => Exists.elim h32 (fun x32 h33 => Exists.elim h33 (fun x33 h34 => Exists.elim h34 (fun x34 h35 => Exists.elim h35 (fun x35 h36 => k x0 x1 x2 x3 x4 x5 x6 x7 x8 x9 x10 x11 x12 x13 x14 x15 x16 x17 x18 x19 x20 x21 x22 x23 x24 x25 x26 x27 x28 x29 x30 x31 x32 x33 x34 x35 h36))))))))))))))))))))))))))))))))))))
theorem exE37 {α0 α1 α2 α3 α4 α5 α6 α7 α8 α9 α10 α11 α12 α13 α14 α15 α16 α17 α18 α19 α20 α21 α22 α23 α24 α25 α26 α27 α28 α29 α30 α31 α32 α33 α34 α35 α36 : Type} {A B : α0 → α1 → α2 → α3 → α4 → α5 → α6 → α7 → α8 → α9 → α10 → α11 → α12 → α13 → α14 → α15 → α16 → α17 → α18 → α19 → α20 → α21 → α22 → α23 → α24 → α25 → α26 → α27 → α28 → α29 → α30 → α31 → α32 → α33 → α34 → α35 → α36 → Prop} {G : Prop} (h : ∃ (x0 : α0) (x1 : α1) (x2 : α2) (x3 : α3) (x4 : α4) (x5 : α5) (x6 : α6) (x7 : α7) (x8 : α8) (x9 : α9) (x10 : α10) (x11 : α11) (x12 : α12) (x13 : α13) (x14 : α14) (x15 : α15) (x16 : α16) (x17 : α17) (x18 : α18) (x19 : α19) (x20 : α20) (x21 : α21) (x22 : α22) (x23 : α23) (x24 : α24) (x25 : α25) (x26 : α26) (x27 : α27) (x28 : α28) (x29 : α29) (x30 : α30) (x31 : α31) (x32 : α32) (x33 : α33) (x34 : α34) (x35 : α35) (x36 : α36), A x0 x1 x2 x3 x4 x5 x6 x7 x8 x9 x10 x11 x12 x13 x14 x15 x16 x17 x18 x19 x20 x21 x22 x23 x24 x25 x26 x27 x28 x29 x30 x31 x32 x33 x34 x35 x36 ∧ B x0 x1 x2 x3 x4 x5 x6 x7 x8 x9 x10 x11 x12 x13 x14 x15 x16 x17 x18 x19 x20 x21 x22 x23 x24 x25 x26 x27 x28 x29 x30 x31 x32 x33 x34 x35 x36) (k : ∀ (x0 : α0) (x1 : α1) (x2 : α2) (x3 : α3) (x4 : α4) (x5 : α5) (x6 : α6) (x7 : α7) (x8 : α8) (x9 : α9) (x10 : α10) (x11 : α11) (x12 : α12) (x13 : α13) (x14 : α14) (x15 : α15) (x16 : α16) (x17 : α17) (x18 : α18) (x19 : α19) (x20 : α20) (x21 : α21) (x22 : α22) (x23 : α23) (x24 : α24) (x25 : α25) (x26 : α26) (x27 : α27) (x28 : α28) (x29 : α29) (x30 : α30) (x31 : α31) (x32 : α32) (x33 : α33) (x34 : α34) (x35 : α35) (x36 : α36), A x0 x1 x2 x3 x4 x5 x6 x7 x8 x9 x10 x11 x12 x13 x14 x15 x16 x17 x18 x19 x20 x21 x22 x23 x24 x25 x26 x27 x28 x29 x30 x31 x32 x33 x34 x35 x36 → B x0 x1 x2 x3 x4 x5 x6 x7 x8 x9 x10 x11 x12 x13 x14 x15 x16 x17 x18 x19 x20 x21 x22 x23 x24 x25 x26 x27 x28 x29 x30 x31 x32 x33 x34 x35 x36 → G) : G := Exists.elim h (fun x0 h1 => Exists.elim h1 (fun x1 h2 => Exists.elim h2 (fun x2 h3 => Exists.elim h3 (fun x3 h4 => Exists.elim h4 (fun x4 h5 => Exists.elim h5 (fun x5 h6 => Exists.elim h6 (fun x6 h7 => Exists.elim h7 (fun x7 h8 => Exists.elim h8 (fun x8 h9 => Exists.elim h9 (fun x9 h10 => Exists.elim h10 (fun x10 h11 => Exists.elim h11 (fun x11 h12 => Exists.elim h12 (fun x12 h13 => Exists.elim h13 (fun x13 h14 => Exists.elim h14 (fun x14 h15 => Exists.elim h15 (fun x15 h16 => Exists.elim h16 (fun x16 h17 => Exists.elim h17 (fun x17 h18 => Exists.elim h18 (fun x18 h19 => Exists.elim h19 (fun x19 h20 => Exists.elim h20 (fun x20 h21 => Exists.elim h21 (fun x21 h22 => Exists.elim h22 (fun x22 h23 => Exists.elim h23 (fun x23 h24 => Exists.elim h24 (fun x24 h25 => Exists.elim h25 (fun x25 h26 => Exists.elim h26 (fun x26 h27 => Exists.elim h27 (fun x27 h28 => Exists.elim h28 (fun x28 h29 => Exists.elim h29 (fun x29 h30 => Exists.elim h30 (fun x30 h31 => Exists.elim h31 (fun x31 h32 => Exists.elim h32 (fun x32 h33 => Exists.elim h33 (fun x33 h34 => Exists.elim h34 (fun x34 h35 => Exists.elim h35 (fun x35 h36 => Exists.elim h36 (fun x36 h37 => k x0 x1 x2 x3 x4 x5 x6 x7 x8 x9 x10 x11 x12 x13 x14 x15 x16 x17 x18 x19 x20 x21 x22 x23 x24 x25 x26 x27 x28 x29 x30 x31 x32 x33 x34 x35 x36 h37.1 h37.2)))))))))))))))))))))))))))))))))))))
theorem exA1 {A0 T G : Prop} (h : A0 ∧ T) (k : A0 → T → G) : G := k h.1 h.2
theorem exA2 {A0 A1 T G : Prop} (h : A0 ∧ A1 ∧ T) (k : A0 → A1 → T → G) : G := k h.1 h.2.1 h.2.2
theorem exA3 {A0 A1 A2 T G : Prop} (h : A0 ∧ A1 ∧ A2 ∧ T) (k : A0 → A1 → A2 → T → G) : G := k h.1 h.2.1 h.2.2.1 h.2.2.2
theorem exA4 {A0 A1 A2 A3 T G : Prop} (h : A0 ∧ A1 ∧ A2 ∧ A3 ∧ T) (k : A0 → A1 → A2 → A3 → T → G) : G := k h.1 h.2.1 h.2.2.1 h.2.2.2.1 h.2.2.2.2
theorem exA5 {A0 A1 A2 A3 A4 T G : Prop} (h : A0 ∧ A1 ∧ A2 ∧ A3 ∧ A4 ∧ T) (k : A0 → A1 → A2 → A3 → A4 → T → G) : G := k h.1 h.2.1 h.2.2.1 h.2.2.2.1 h.2.2.2.2.1 h.2.2.2.2.2
theorem exA6 {A0 A1 A2 A3 A4 A5 T G : Prop} (h : A0 ∧ A1 ∧ A2 ∧ A3 ∧ A4 ∧ A5 ∧ T) (k : A0 → A1 → A2 → A3 → A4 → A5 → T → G) : G := k h.1 h.2.1 h.2.2.1 h.2.2.2.1 h.2.2.2.2.1 h.2.2.2.2.2.1 h.2.2.2.2.2.2
theorem exA7 {A0 A1 A2 A3 A4 A5 A6 T G : Prop} (h : A0 ∧ A1 ∧ A2 ∧ A3 ∧ A4 ∧ A5 ∧ A6 ∧ T) (k : A0 → A1 → A2 → A3 → A4 → A5 → A6 → T → G) : G := k h.1 h.2.1 h.2.2.1 h.2.2.2.1 h.2.2.2.2.1 h.2.2.2.2.2.1 h.2.2.2.2.2.2.1 h.2.2.2.2.2.2.2
theorem exA8 {A0 A1 A2 A3 A4 A5 A6 A7 T G : Prop} (h : A0 ∧ A1 ∧ A2 ∧ A3 ∧ A4 ∧ A5 ∧ A6 ∧ A7 ∧ T) (k : A0 → A1 → A2 → A3 → A4 → A5 → A6 → A7 → T → G) : G := k h.1 h.2.1 h.2.2.1 h.2.2.2.1 h.2.2.2.2.1 h.2.2.2.2.2.1 h.2.2.2.2.2.2.1 h.2.2.2.2.2.2.2.1 h.2.2.2.2.2.2.2.2
theorem exA9 {A0 A1 A2 A3 A4 A5 A6 A7 A8 T G : Prop} (h : A0 ∧ A1 ∧ A2 ∧ A3 ∧ A4 ∧ A5 ∧ A6 ∧ A7 ∧ A8 ∧ T) (k : A0 → A1 → A2 → A3 → A4 → A5 → A6 → A7 → A8 → T → G) : G := k h.1 h.2.1 h.2.2.1 h.2.2.2.1 h.2.2.2.2.1 h.2.2.2.2.2.1 h.2.2.2.2.2.2.1 h.2.2.2.2.2.2.2.1 h.2.2.2.2.2.2.2.2.1 h.2.2.2.2.2.2.2.2.2
theorem exA10 {A0 A1 A2 A3 A4 A5 A6 A7 A8 A9 T G : Prop} (h : A0 ∧ A1 ∧ A2 ∧ A3 ∧ A4 ∧ A5 ∧ A6 ∧ A7 ∧ A8 ∧ A9 ∧ T) (k : A0 → A1 → A2 → A3 → A4 → A5 → A6 → A7 → A8 → A9 → T → G) : G := k h.1 h.2.1 h.2.2.1 h.2.2.2.1 h.2.2.2.2.1 h.2.2.2.2.2.1 h.2.2.2.2.2.2.1 h.2.2.2.2.2.2.2.1 h.2.2.2.2.2.2.2.2.1 h.2.2.2.2.2.2.2.2.2.1 h.2.2.2.2.2.2.2.2.2.2
theorem exA14 {A0 A1 A2 A3 A4 A5 A6 A7 A8 A9 A10 A11 A12 A13 T G : Prop} (h : A0 ∧ A1 ∧ A2 ∧ A3 ∧ A4 ∧ A5 ∧ A6 ∧ A7 ∧ A8 ∧ A9 ∧ A10 ∧ A11 ∧ A12 ∧ A13 ∧ T) (k : A0 → A1 → A2 → A3 → A4 → A5 → A6 → A7 → A8 → A9 → A10 → A11 → A12 → A13 → T → G) : G := k h.1 h.2.1 h.2.2.1 h.2.2.2.1 h.2.2.2.2.1 h.2.2.2.2.2.1 h.2.2.2.2.2.2.1 h.2.2.2.2.2.2.2.1 h.2.2.2.2.2.2.2.2.1 h.2.2.2.2.2.2.2.2.2.1 h.2.2.2.2.2.2.2.2.2.2.1 h.2.2.2.2.2.2.2.2.2.2.2.1 h.2.2.2.2.2.2.2.2.2.2.2.2.1 h.2.2.2.2.2.2.2.2.2.2.2.2.2.1 h.2.2.2.2.2.2.2.2.2.2.2.2.2.2
theorem exA30 {A0 A1 A2 A3 A4 A5 A6 A7 A8 A9 A10 A11 A12 A13 A14 A15 A16 A17 A18 A19 A20 A21 A22 A23 A24 A25 A26 A27 A28 A29 T G : Prop} (h : A0 ∧ A1 ∧ A2 ∧ A3 ∧ A4 ∧ A5 ∧ A6 ∧ A7 ∧ A8 ∧ A9 ∧ A10 ∧ A11 ∧ A12 ∧ A13 ∧ A14 ∧ A15 ∧ A16 ∧ A17 ∧ A18 ∧ A19 ∧ A20 ∧ A21 ∧ A22 ∧ A23 ∧ A24 ∧ A25 ∧ A26 ∧ A27 ∧ A28 ∧ A29 ∧ T) (k : A0 → A1 → A2 → A3 → A4 → A5 → A6 → A7 → A8 → A9 → A10 → A11 → A12 → A13 → A14 → A15 → A16 → A17 → A18 → A19 → A20 → A21 → A22 → A23 → A24 → A25 → A26 → A27 → A28 → A29 → T → G) : G := k h.1 h.2.1 h.2.2.1 h.2.2.2.1 h.2.2.2.2.1 h.2.2.2.2.2.1 h.2.2.2.2.2.2.1 h.2.2.2.2.2.2.2.1 h.2.2.2.2.2.2.2.2.1 h.2.2.2.2.2.2.2.2.2.1 h.2.2.2.2.2.2.2.2.2.2.1 h.2.2.2.2.2.2.2.2.2.2.2.1 h.2.2.2.2.2.2.2.2.2.2.2.2.1 h.2.2.2.2.2.2.2.2.2.2.2.2.2.1 h.2.2.2.2.2.2.2.2.2.2.2.2.2.2.1 h.2.2.2.2.2.2.2.2.2.2.2.2.2.2.2.1 h.2.2.2.2.2.2.2.2.2.2.2.2.2.2.2.2.1 h.2.2.2.2.2.2.2.2.2.2.2.2.2.2.2.2.2.1 h.2.2.2.2.2.2.2.2.2.2.2.2.2.2.2.2.2.2.1 h.2.2.2.2.2.2.2.2.2.2.2.2.2.2.2.2.2.2.2.1 h.2.2.2.2.2.2.2.2.2.2.2.2.2.2.2.2.2.2.2.2.1 h.2.2.2.2.2.2.2.2.2.2.2.2.2.2.2.2.2.2.2.2.2.1 h.2.2.2.2.2.2.2.2.2.2.2.2.2.2.2.2.2.2.2.2.2.2.1 h.2.2.2.2.2.2.2.2.2.2.2.2.2.2.2.2.2.2.2.2.2.2.2.1 h.2.2.2.2.2.2.2.2.2.2.2.2.2.2.2.2.2.2.2.2.2.2.2.2.1 h.2.2.2.2.2.2.2.2.2.2.2.2.2.2.2.2.2.2.2.2.2.2.2.2.2.1 h.2.2.2.2.2.2.2.2.2.2.2.2.2.2.2.2.2.2.2.2.2.2.2.2.2.2.1 h.2.2.2.2.2.2.2.2.2.2.2.2.2.2.2.2.2.2.2.2.2.2.2.2.2.2.2.1 h.2.2.2.2.2.2.2.2.2.2.2.2.2.2.2.2.2.2.2.2.2.2.2.2.2.2.2.2.1 h.2.2.2.2.2.2.2.2.2.2.2.2.2.2.2.2.2.2.2.2.2.2.2.2.2.2.2.2.2.1 h.2.2.2.2.2.2.2.2.2.2.2.2.2.2.2.2.2.2.2.2.2.2.2.2.2.2.2.2.2.2
theorem exA36 {A0 A1 A2 A3 A4 A5 A6 A7 A8 A9 A10 A11 A12 A13 A14 A15 A16 A17 A18 A19 A20 A21 A22 A23 A24 A25 A26 A27 A28 A29 A30 A31 A32 A33 A34 A35 T G : Prop} (h : A0 ∧ A1 ∧ A2 ∧ A3 ∧ A4 ∧ A5 ∧ A6 ∧ A7 ∧ A8 ∧ A9 ∧ A10 ∧ A11 ∧ A12 ∧ A13 ∧ A14 ∧ A15 ∧ A16 ∧ A17 ∧ A18 ∧ A19 ∧ A20 ∧ A21 ∧ A22 ∧ A23 ∧ A24 ∧ A25 ∧ A26 ∧ A27 ∧ A28 ∧ A29 ∧ A30 ∧ A31 ∧ A32 ∧ A33 ∧ A34 ∧ A35 ∧ T) (k : A0 → A1 → A2 → A3 → A4 → A5 → A6 → A7 → A8 → A9 → A10 → A11 → A12 → A13 → A14 → A15 → A16 → A17 → A18 → A19 → A20 → A21 → A22 → A23 → A24 → A25 → A26 → A27 → A28 → A29 → A30 → A31 → A32 → A33 → A34 → A35 → T → G) : G := k h.1 h.2.1 h.2.2.1 h.2.2.2.1 h.2.2.2.2.1 h.2.2.2.2.2.1 h.2.2.2.2.2.2.1 h.2.2.2.2.2.2.2.1 h.2.2.2.2.2.2.2.2.1 h.2.2.2.2.2.2.2.2.2.1 h.2.2.2.2.2.2.2.2.2.2.1 h.2.2.2.2.2.2.2.2.2.2.2.1 h.2.2.2.2.2.2.2.2.2.2.2.2.1 h.2.2.2.2.2.2.2.2.2.2.2.2.2.1 h.2.2.2.2.2.2.2.2.2.2.2.2.2.2.1 h.2.2.2.2.2.2.2.2.2.2.2.2.2.2.2.1 h.2.2.2.2.2.2.2.2.2.2.2.2.2.2.2.2.1 h.2.2.2.2.2.2.2.2.2.2.2.2.2.2.2.2.2.1 h.2.2.2.2.2.2.2.2.2.2.2.2.2.2.2.2.2.2.1 h.2.2.2.2.2.2.2.2.2.2.2.2.2.2.2.2.2.2.2.1 h.2.2.2.2.2.2.2.2.2.2.2.2.2.2.2.2.2.2.2.2.1 h.2.2.2.2.2.2.2.2.2.2.2.2.2.2.2.2.2.2.2.2.2.1 h.2.2.2.2.2.2.2.2.2.2.2.2.2.2.2.2.2.2.2.2.2.2.1 h.2.2.2.2.2.2.2.2.2.2.2.2.2.2.2.2.2.2.2.2.2.2.2.1 h.2.2.2.2.2.2.2.2.2.2.2.2.2.2.2.2.2.2.2.2.2.2.2.2.1 h.2.2.2.2.2.2.2.2.2.2.2.2.2.2.2.2.2.2.2.2.2.2.2.2.2.1 h.2.2.2.2.2.2.2.2.2.2.2.2.2.2.2.2.2.2.2.2.2.2.2.2.2.2.1 h.2.2.2.2.2.2.2.2.2.2.2.2.2.2.2.2.2.2.2.2.2.2.2.2.2.2.2.1 h.2.2.2.2.2.2.2.2.2.2.2.2.2.2.2.2.2.2.2.2.2.2.2.2.2.2.2.2.1 h.2.2.2.2.2.2.2.2.2.2.2.2.2.2.2.2.2.2.2.2.2.2.2.2.2.2.2.2.2.1 h.2.2.2.2.2.2.2.2.2.2.2.2.2.2.2.2.2.2.2.2.2.2.2.2.2.2.2.2.2.2.1 h.2.2.2.2.2.2.2.2.2.2.2.2.2.2.2.2.2.2.2.2.2.2.2.2.2.2.2.2.2.2.2.1 h.2.2.2.2.2.2.2.2.2.2.2.2.2.2.2.2.2.2.2.2.2.2.2.2.2.2.2.2.2.2.2.2.1 h.2.2.2.2.2.2.2.2.2.2.2.2.2.2.2.2.2.2.2.2.2.2.2.2.2.2.2.2.2.2.2.2.2.1 h.2.2.2.2.2.2.2.2.2.2.2.2.2.2.2.2.2.2.2.2.2.2.2.2.2.2.2.2.2.2.2.2.2.2.1 h.2.2.2.2.2.2.2.2.2.2.2.2.2.2.2.2.2.2.2.2.2.2.2.2.2.2.2.2.2.2.2.2.2.2.2.1 h.2.2.2.2.2.2.2.2.2.2.2.2.2.2.2.2.2.2.2.2.2.2.2.2.2.2.2.2.2.2.2.2.2.2.2.2
theorem yk_yJ0_charAt_5068e_1 : yOk yJ0_charAt_5068e 1 := by unfold yOk; decide +kernel
theorem yk_yJ0_checkIndex_df160_2 : yOk yJ0_checkIndex_df160 2 := by unfold yOk; decide +kernel
theorem yk_yJ0_coder_7d493_0 : yOk yJ0_coder_7d493 0 := by unfold yOk; decide +kernel
theorem yk_yJ0_isLatin1_aae02_0 : yOk yJ0_isLatin1_aae02 0 := by unfold yOk; decide +kernel
theorem yk_yJ0_length_8abf5_0 : yOk yJ0_length_8abf5 0 := by unfold yOk; decide +kernel
theorem yk_yJ1_charAt_3b067_2 : yOk yJ1_charAt_3b067 2 := by unfold yOk; decide +kernel
theorem yk_yJ3_checkIndex_8e157_3 : yOk yJ3_checkIndex_8e157 3 := by unfold yOk; decide +kernel
theorem yk_yJ6_bitCount_0f7a4_1 : yOk yJ6_bitCount_0f7a4 1 := by unfold yOk; decide +kernel
theorem yk_yX0_burn_3 : yOk yX0_burn 3 := by unfold yOk; decide +kernel
theorem yk_yX0_fewestTrims_2 : yOk yX0_fewestTrims 2 := by unfold yOk; decide +kernel
theorem yk_yX0_firstDying_0 : yOk yX0_firstDying 0 := by unfold yOk; decide +kernel
theorem yk_yX0_init_0 : yOk yX0_init 0 := by unfold yOk; decide +kernel
theorem yk_yX10_actDone_0 : yOk yX10_actDone 0 := by unfold yOk; decide +kernel
theorem yk_yX10_all_2 : yOk yX10_all 2 := by unfold yOk; decide +kernel
theorem yk_yX10_apart_2 : yOk yX10_apart 2 := by unfold yOk; decide +kernel
theorem yk_yX10_apartBy_1 : yOk yX10_apartBy 1 := by unfold yOk; decide +kernel
theorem yk_yX10_arc_2 : yOk yX10_arc 2 := by unfold yOk; decide +kernel
theorem yk_yX10_back_1 : yOk yX10_back 1 := by unfold yOk; decide +kernel
theorem yk_yX10_begins_2 : yOk yX10_begins 2 := by unfold yOk; decide +kernel
theorem yk_yX10_believes_2 : yOk yX10_believes 2 := by unfold yOk; decide +kernel
theorem yk_yX10_bestMan_2 : yOk yX10_bestMan 2 := by unfold yOk; decide +kernel
theorem yk_yX10_bestSlip_1 : yOk yX10_bestSlip 1 := by unfold yOk; decide +kernel
theorem yk_yX10_black_2 : yOk yX10_black 2 := by unfold yOk; decide +kernel
theorem yk_yX10_boys_1 : yOk yX10_boys 1 := by unfold yOk; decide +kernel
theorem yk_yX10_boysMeant_1 : yOk yX10_boysMeant 1 := by unfold yOk; decide +kernel
theorem yk_yX10_bySlip_1 : yOk yX10_bySlip 1 := by unfold yOk; decide +kernel
theorem yk_yX10_changes_2 : yOk yX10_changes 2 := by unfold yOk; decide +kernel
theorem yk_yX10_dark_2 : yOk yX10_dark 2 := by unfold yOk; decide +kernel
theorem yk_yX10_dies_2 : yOk yX10_dies 2 := by unfold yOk; decide +kernel
theorem yk_yX10_exact_2 : yOk yX10_exact 2 := by unfold yOk; decide +kernel
theorem yk_yX10_exchanges_0 : yOk yX10_exchanges 0 := by unfold yOk; decide +kernel
theorem yk_yX10_far_1 : yOk yX10_far 1 := by unfold yOk; decide +kernel
theorem yk_yX10_farFrom_2 : yOk yX10_farFrom 2 := by unfold yOk; decide +kernel
theorem yk_yX10_fault_0 : yOk yX10_fault 0 := by unfold yOk; decide +kernel
theorem yk_yX10_feed_5 : yOk yX10_feed 5 := by unfold yOk; decide +kernel
theorem yk_yX10_firstDies_1 : yOk yX10_firstDies 1 := by unfold yOk; decide +kernel
theorem yk_yX10_fits_0 : yOk yX10_fits 0 := by unfold yOk; decide +kernel
theorem yk_yX10_free_2 : yOk yX10_free 2 := by unfold yOk; decide +kernel
theorem yk_yX10_holds_3 : yOk yX10_holds 3 := by unfold yOk; decide +kernel
theorem yk_yX10_house_1 : yOk yX10_house 1 := by unfold yOk; decide +kernel
theorem yk_yX10_image_0 : yOk yX10_image 0 := by unfold yOk; decide +kernel
theorem yk_yX10_init_0 : yOk yX10_init 0 := by unfold yOk; decide +kernel
theorem yk_yX10_isOpen_0 : yOk yX10_isOpen 0 := by unfold yOk; decide +kernel
theorem yk_yX10_lackedBy_1 : yOk yX10_lackedBy 1 := by unfold yOk; decide +kernel
theorem yk_yX10_leastSlip_1 : yOk yX10_leastSlip 1 := by unfold yOk; decide +kernel
theorem yk_yX10_length_1 : yOk yX10_length 1 := by unfold yOk; decide +kernel
theorem yk_yX10_likeliest_1 : yOk yX10_likeliest 1 := by unfold yOk; decide +kernel
theorem yk_yX10_lost_2 : yOk yX10_lost 2 := by unfold yOk; decide +kernel
theorem yk_yX10_mark_2 : yOk yX10_mark 2 := by unfold yOk; decide +kernel
theorem yk_yX10_mend_1 : yOk yX10_mend 1 := by unfold yOk; decide +kernel
theorem yk_yX10_missing_2 : yOk yX10_missing 2 := by unfold yOk; decide +kernel
theorem yk_yX10_nearestMark_1 : yOk yX10_nearestMark 1 := by unfold yOk; decide +kernel
theorem yk_yX10_needs_2 : yOk yX10_needs 2 := by unfold yOk; decide +kernel
theorem yk_yX10_never_1 : yOk yX10_never 1 := by unfold yOk; decide +kernel
theorem yk_yX10_ofNight_3 : yOk yX10_ofNight 3 := by unfold yOk; decide +kernel
theorem yk_yX10_ofPlace_2 : yOk yX10_ofPlace 2 := by unfold yOk; decide +kernel
theorem yk_yX10_pays_2 : yOk yX10_pays 2 := by unfold yOk; decide +kernel
theorem yk_yX10_reel_2 : yOk yX10_reel 2 := by unfold yOk; decide +kernel
theorem yk_yX10_refuse_1 : yOk yX10_refuse 1 := by unfold yOk; decide +kernel
theorem yk_yX10_refuseAct_1 : yOk yX10_refuseAct 1 := by unfold yOk; decide +kernel
theorem yk_yX10_rideTrouble_3 : yOk yX10_rideTrouble 3 := by unfold yOk; decide +kernel
theorem yk_yX10_runNight_1 : yOk yX10_runNight 1 := by unfold yOk; decide +kernel
theorem yk_yX10_shows_1 : yOk yX10_shows 1 := by unfold yOk; decide +kernel
theorem yk_yX10_signs_1 : yOk yX10_signs 1 := by unfold yOk; decide +kernel
theorem yk_yX10_size_1 : yOk yX10_size 1 := by unfold yOk; decide +kernel
theorem yk_yX10_starts_2 : yOk yX10_starts 2 := by unfold yOk; decide +kernel
theorem yk_yX10_tail_2 : yOk yX10_tail 2 := by unfold yOk; decide +kernel
theorem yk_yX10_tell_1 : yOk yX10_tell 1 := by unfold yOk; decide +kernel
theorem yk_yX10_tellPart_1 : yOk yX10_tellPart 1 := by unfold yOk; decide +kernel
theorem yk_yX10_thread_1 : yOk yX10_thread 1 := by unfold yOk; decide +kernel
theorem yk_yX10_threads_2 : yOk yX10_threads 2 := by unfold yOk; decide +kernel
theorem yk_yX10_trim_2 : yOk yX10_trim 2 := by unfold yOk; decide +kernel
theorem yk_yX10_trouble_0 : yOk yX10_trouble 0 := by unfold yOk; decide +kernel
theorem yk_yX10_truly_3 : yOk yX10_truly 3 := by unfold yOk; decide +kernel
theorem yk_yX10_undo_0 : yOk yX10_undo 0 := by unfold yOk; decide +kernel
theorem yk_yX10_waits_3 : yOk yX10_waits 3 := by unfold yOk; decide +kernel
theorem yk_yX10_wasteByDraws_3 : yOk yX10_wasteByDraws 3 := by unfold yOk; decide +kernel
theorem yk_yX10_wears_3 : yOk yX10_wears 3 := by unfold yOk; decide +kernel
theorem yk_yX10_well_1 : yOk yX10_well 1 := by unfold yOk; decide +kernel
theorem yk_yX10_where_0 : yOk yX10_where 0 := by unfold yOk; decide +kernel
theorem yk_yX10_who_1 : yOk yX10_who 1 := by unfold yOk; decide +kernel
theorem yk_yX10_words_1 : yOk yX10_words 1 := by unfold yOk; decide +kernel
theorem yk_yX10_worst_1 : yOk yX10_worst 1 := by unfold yOk; decide +kernel
theorem yk_yX10_wrong_0 : yOk yX10_wrong 0 := by unfold yOk; decide +kernel
theorem yk_yX11_after_3 : yOk yX11_after 3 := by unfold yOk; decide +kernel
theorem yk_yX11_all_2 : yOk yX11_all 2 := by unfold yOk; decide +kernel
theorem yk_yX11_allWeights_1 : yOk yX11_allWeights 1 := by unfold yOk; decide +kernel
theorem yk_yX11_apart_2 : yOk yX11_apart 2 := by unfold yOk; decide +kernel
theorem yk_yX11_apartOf_2 : yOk yX11_apartOf 2 := by unfold yOk; decide +kernel
theorem yk_yX11_arc_2 : yOk yX11_arc 2 := by unfold yOk; decide +kernel
theorem yk_yX11_back_1 : yOk yX11_back 1 := by unfold yOk; decide +kernel
theorem yk_yX11_bad_2 : yOk yX11_bad 2 := by unfold yOk; decide +kernel
theorem yk_yX11_begins_2 : yOk yX11_begins 2 := by unfold yOk; decide +kernel
theorem yk_yX11_believes_2 : yOk yX11_believes 2 := by unfold yOk; decide +kernel
theorem yk_yX11_believesOf_2 : yOk yX11_believesOf 2 := by unfold yOk; decide +kernel
theorem yk_yX11_bestMan_2 : yOk yX11_bestMan 2 := by unfold yOk; decide +kernel
theorem yk_yX11_bestSlip_1 : yOk yX11_bestSlip 1 := by unfold yOk; decide +kernel
theorem yk_yX11_bestSlipOf_1 : yOk yX11_bestSlipOf 1 := by unfold yOk; decide +kernel
theorem yk_yX11_black_2 : yOk yX11_black 2 := by unfold yOk; decide +kernel
theorem yk_yX11_boyWhy_1 : yOk yX11_boyWhy 1 := by unfold yOk; decide +kernel
theorem yk_yX11_boys_1 : yOk yX11_boys 1 := by unfold yOk; decide +kernel
theorem yk_yX11_boysLine_0 : yOk yX11_boysLine 0 := by unfold yOk; decide +kernel
theorem yk_yX11_burn_1 : yOk yX11_burn 1 := by unfold yOk; decide +kernel
theorem yk_yX11_bySlip_1 : yOk yX11_bySlip 1 := by unfold yOk; decide +kernel
theorem yk_yX11_canTell_2 : yOk yX11_canTell 2 := by unfold yOk; decide +kernel
theorem yk_yX11_carry_2 : yOk yX11_carry 2 := by unfold yOk; decide +kernel
theorem yk_yX11_changes_2 : yOk yX11_changes 2 := by unfold yOk; decide +kernel
theorem yk_yX11_comma_0 : yOk yX11_comma 0 := by unfold yOk; decide +kernel
theorem yk_yX11_copy_5 : yOk yX11_copy 5 := by unfold yOk; decide +kernel
theorem yk_yX11_dark_2 : yOk yX11_dark 2 := by unfold yOk; decide +kernel
theorem yk_yX11_dies_2 : yOk yX11_dies 2 := by unfold yOk; decide +kernel
theorem yk_yX11_drawNight_1 : yOk yX11_drawNight 1 := by unfold yOk; decide +kernel
theorem yk_yX11_drawn_0 : yOk yX11_drawn 0 := by unfold yOk; decide +kernel
theorem yk_yX11_exact_2 : yOk yX11_exact 2 := by unfold yOk; decide +kernel
theorem yk_yX11_exchanges_0 : yOk yX11_exchanges 0 := by unfold yOk; decide +kernel
theorem yk_yX11_far_1 : yOk yX11_far 1 := by unfold yOk; decide +kernel
theorem yk_yX11_farOf_2 : yOk yX11_farOf 2 := by unfold yOk; decide +kernel
theorem yk_yX11_fault_0 : yOk yX11_fault 0 := by unfold yOk; decide +kernel
theorem yk_yX11_feed_5 : yOk yX11_feed 5 := by unfold yOk; decide +kernel
theorem yk_yX11_find_0 : yOk yX11_find 0 := by unfold yOk; decide +kernel
theorem yk_yX11_firstDies_1 : yOk yX11_firstDies 1 := by unfold yOk; decide +kernel
theorem yk_yX11_fits_0 : yOk yX11_fits 0 := by unfold yOk; decide +kernel
theorem yk_yX11_follows_5 : yOk yX11_follows 5 := by unfold yOk; decide +kernel
theorem yk_yX11_frameOf_1 : yOk yX11_frameOf 1 := by unfold yOk; decide +kernel
theorem yk_yX11_framesAt_1 : yOk yX11_framesAt 1 := by unfold yOk; decide +kernel
theorem yk_yX11_free_2 : yOk yX11_free 2 := by unfold yOk; decide +kernel
theorem yk_yX11_freeOf_1 : yOk yX11_freeOf 1 := by unfold yOk; decide +kernel
theorem yk_yX11_good_0 : yOk yX11_good 0 := by unfold yOk; decide +kernel
theorem yk_yX11_hasBit_2 : yOk yX11_hasBit 2 := by unfold yOk; decide +kernel
theorem yk_yX11_holds_3 : yOk yX11_holds 3 := by unfold yOk; decide +kernel
theorem yk_yX11_house_1 : yOk yX11_house 1 := by unfold yOk; decide +kernel
theorem yk_yX11_houseLine_0 : yOk yX11_houseLine 0 := by unfold yOk; decide +kernel
theorem yk_yX11_image_0 : yOk yX11_image 0 := by unfold yOk; decide +kernel
theorem yk_yX11_in_3 : yOk yX11_in 3 := by unfold yOk; decide +kernel
theorem yk_yX11_init_0 : yOk yX11_init 0 := by unfold yOk; decide +kernel
theorem yk_yX11_isDigit_1 : yOk yX11_isDigit 1 := by unfold yOk; decide +kernel
theorem yk_yX11_isDot_2 : yOk yX11_isDot 2 := by unfold yOk; decide +kernel
theorem yk_yX11_isEven_1 : yOk yX11_isEven 1 := by unfold yOk; decide +kernel
theorem yk_yX11_isGone_1 : yOk yX11_isGone 1 := by unfold yOk; decide +kernel
theorem yk_yX11_isMan_1 : yOk yX11_isMan 1 := by unfold yOk; decide +kernel
theorem yk_yX11_isMended_1 : yOk yX11_isMended 1 := by unfold yOk; decide +kernel
theorem yk_yX11_isNot_1 : yOk yX11_isNot 1 := by unfold yOk; decide +kernel
theorem yk_yX11_isPlace_1 : yOk yX11_isPlace 1 := by unfold yOk; decide +kernel
theorem yk_yX11_isReel_1 : yOk yX11_isReel 1 := by unfold yOk; decide +kernel
theorem yk_yX11_isSmall_1 : yOk yX11_isSmall 1 := by unfold yOk; decide +kernel
theorem yk_yX11_isWeak_1 : yOk yX11_isWeak 1 := by unfold yOk; decide +kernel
theorem yk_yX11_isWord_1 : yOk yX11_isWord 1 := by unfold yOk; decide +kernel
theorem yk_yX11_joinLine_0 : yOk yX11_joinLine 0 := by unfold yOk; decide +kernel
theorem yk_yX11_joinsOf_1 : yOk yX11_joinsOf 1 := by unfold yOk; decide +kernel
theorem yk_yX11_layNight_1 : yOk yX11_layNight 1 := by unfold yOk; decide +kernel
theorem yk_yX11_layScratch_1 : yOk yX11_layScratch 1 := by unfold yOk; decide +kernel
theorem yk_yX11_laySorted_0 : yOk yX11_laySorted 0 := by unfold yOk; decide +kernel
theorem yk_yX11_layTold_1 : yOk yX11_layTold 1 := by unfold yOk; decide +kernel
theorem yk_yX11_least_2 : yOk yX11_least 2 := by unfold yOk; decide +kernel
theorem yk_yX11_led_1 : yOk yX11_led 1 := by unfold yOk; decide +kernel
theorem yk_yX11_length_1 : yOk yX11_length 1 := by unfold yOk; decide +kernel
theorem yk_yX11_likeliest_1 : yOk yX11_likeliest 1 := by unfold yOk; decide +kernel
theorem yk_yX11_look_1 : yOk yX11_look 1 := by unfold yOk; decide +kernel
theorem yk_yX11_lost_2 : yOk yX11_lost 2 := by unfold yOk; decide +kernel
theorem yk_yX11_lowest_3 : yOk yX11_lowest 3 := by unfold yOk; decide +kernel
theorem yk_yX11_manLine_0 : yOk yX11_manLine 0 := by unfold yOk; decide +kernel
theorem yk_yX11_mark_2 : yOk yX11_mark 2 := by unfold yOk; decide +kernel
theorem yk_yX11_markLine_0 : yOk yX11_markLine 0 := by unfold yOk; decide +kernel
theorem yk_yX11_markOf_2 : yOk yX11_markOf 2 := by unfold yOk; decide +kernel
theorem yk_yX11_marksOf_1 : yOk yX11_marksOf 1 := by unfold yOk; decide +kernel
theorem yk_yX11_mend_1 : yOk yX11_mend 1 := by unfold yOk; decide +kernel
theorem yk_yX11_missing_2 : yOk yX11_missing 2 := by unfold yOk; decide +kernel
theorem yk_yX11_most_2 : yOk yX11_most 2 := by unfold yOk; decide +kernel
theorem yk_yX11_must_1 : yOk yX11_must 1 := by unfold yOk; decide +kernel
theorem yk_yX11_mustName_0 : yOk yX11_mustName 0 := by unfold yOk; decide +kernel
theorem yk_yX11_named_2 : yOk yX11_named 2 := by unfold yOk; decide +kernel
theorem yk_yX11_needs_2 : yOk yX11_needs 2 := by unfold yOk; decide +kernel
theorem yk_yX11_needsOf_1 : yOk yX11_needsOf 1 := by unfold yOk; decide +kernel
theorem yk_yX11_never_1 : yOk yX11_never 1 := by unfold yOk; decide +kernel
theorem yk_yX11_newName_1 : yOk yX11_newName 1 := by unfold yOk; decide +kernel
theorem yk_yX11_next_0 : yOk yX11_next 0 := by unfold yOk; decide +kernel
theorem yk_yX11_no_1 : yOk yX11_no 1 := by unfold yOk; decide +kernel
theorem yk_yX11_note_0 : yOk yX11_note 0 := by unfold yOk; decide +kernel
theorem yk_yX11_number_2 : yOk yX11_number 2 := by unfold yOk; decide +kernel
theorem yk_yX11_numberHere_2 : yOk yX11_numberHere 2 := by unfold yOk; decide +kernel
theorem yk_yX11_ones_1 : yOk yX11_ones 1 := by unfold yOk; decide +kernel
theorem yk_yX11_opens_2 : yOk yX11_opens 2 := by unfold yOk; decide +kernel
theorem yk_yX11_opensOnce_2 : yOk yX11_opensOnce 2 := by unfold yOk; decide +kernel
theorem yk_yX11_pays_2 : yOk yX11_pays 2 := by unfold yOk; decide +kernel
theorem yk_yX11_power_2 : yOk yX11_power 2 := by unfold yOk; decide +kernel
theorem yk_yX11_readLine_0 : yOk yX11_readLine 0 := by unfold yOk; decide +kernel
theorem yk_yX11_reel_2 : yOk yX11_reel 2 := by unfold yOk; decide +kernel
theorem yk_yX11_reelAt_1 : yOk yX11_reelAt 1 := by unfold yOk; decide +kernel
theorem yk_yX11_reelLine_0 : yOk yX11_reelLine 0 := by unfold yOk; decide +kernel
theorem yk_yX11_reelPassed_0 : yOk yX11_reelPassed 0 := by unfold yOk; decide +kernel
theorem yk_yX11_scratchLine_0 : yOk yX11_scratchLine 0 := by unfold yOk; decide +kernel
theorem yk_yX11_seenLine_0 : yOk yX11_seenLine 0 := by unfold yOk; decide +kernel
theorem yk_yX11_shifted_3 : yOk yX11_shifted 3 := by unfold yOk; decide +kernel
theorem yk_yX11_shows_1 : yOk yX11_shows 1 := by unfold yOk; decide +kernel
theorem yk_yX11_showsLine_0 : yOk yX11_showsLine 0 := by unfold yOk; decide +kernel
theorem yk_yX11_signs_1 : yOk yX11_signs 1 := by unfold yOk; decide +kernel
theorem yk_yX11_signsOf_1 : yOk yX11_signsOf 1 := by unfold yOk; decide +kernel
theorem yk_yX11_size_1 : yOk yX11_size 1 := by unfold yOk; decide +kernel
theorem yk_yX11_starts_2 : yOk yX11_starts 2 := by unfold yOk; decide +kernel
theorem yk_yX11_sumOf_1 : yOk yX11_sumOf 1 := by unfold yOk; decide +kernel
theorem yk_yX11_tail_2 : yOk yX11_tail 2 := by unfold yOk; decide +kernel
theorem yk_yX11_tailOf_1 : yOk yX11_tailOf 1 := by unfold yOk; decide +kernel
theorem yk_yX11_takesWord_1 : yOk yX11_takesWord 1 := by unfold yOk; decide +kernel
theorem yk_yX11_thread_1 : yOk yX11_thread 1 := by unfold yOk; decide +kernel
theorem yk_yX11_threads_2 : yOk yX11_threads 2 := by unfold yOk; decide +kernel
theorem yk_yX11_townLine_0 : yOk yX11_townLine 0 := by unfold yOk; decide +kernel
theorem yk_yX11_trim_2 : yOk yX11_trim 2 := by unfold yOk; decide +kernel
theorem yk_yX11_trouble_0 : yOk yX11_trouble 0 := by unfold yOk; decide +kernel
theorem yk_yX11_truly_3 : yOk yX11_truly 3 := by unfold yOk; decide +kernel
theorem yk_yX11_undo_0 : yOk yX11_undo 0 := by unfold yOk; decide +kernel
theorem yk_yX11_waits_3 : yOk yX11_waits 3 := by unfold yOk; decide +kernel
theorem yk_yX11_weakLine_0 : yOk yX11_weakLine 0 := by unfold yOk; decide +kernel
theorem yk_yX11_weaksOf_1 : yOk yX11_weaksOf 1 := by unfold yOk; decide +kernel
theorem yk_yX11_wears_3 : yOk yX11_wears 3 := by unfold yOk; decide +kernel
theorem yk_yX11_weightOf_2 : yOk yX11_weightOf 2 := by unfold yOk; decide +kernel
theorem yk_yX11_well_1 : yOk yX11_well 1 := by unfold yOk; decide +kernel
theorem yk_yX11_where_0 : yOk yX11_where 0 := by unfold yOk; decide +kernel
theorem yk_yX11_who_1 : yOk yX11_who 1 := by unfold yOk; decide +kernel
theorem yk_yX11_words_1 : yOk yX11_words 1 := by unfold yOk; decide +kernel
theorem yk_yX11_worst_1 : yOk yX11_worst 1 := by unfold yOk; decide +kernel
theorem yk_yX11_wrong_0 : yOk yX11_wrong 0 := by unfold yOk; decide +kernel
theorem yk_yX1_fewest_1 : yOk yX1_fewest 1 := by unfold yOk; decide +kernel
theorem yk_yX1_init_0 : yOk yX1_init 0 := by unfold yOk; decide +kernel
theorem yk_yX1_sort_1 : yOk yX1_sort 1 := by unfold yOk; decide +kernel
theorem yk_yX1_unit_1 : yOk yX1_unit 1 := by unfold yOk; decide +kernel
theorem yk_yX1_weigh_1 : yOk yX1_weigh 1 := by unfold yOk; decide +kernel
theorem yk_yX1_wrongPlaces_1 : yOk yX1_wrongPlaces 1 := by unfold yOk; decide +kernel
theorem yk_yX2_init_0 : yOk yX2_init 0 := by unfold yOk; decide +kernel
theorem yk_yX2_reduce_0 : yOk yX2_reduce 0 := by unfold yOk; decide +kernel
theorem yk_yX2_set_2 : yOk yX2_set 2 := by unfold yOk; decide +kernel
theorem yk_yX2_setPower_3 : yOk yX2_setPower 3 := by unfold yOk; decide +kernel
theorem yk_yX3_clear_0 : yOk yX3_clear 0 := by unfold yOk; decide +kernel
theorem yk_yX3_copyFrom_1 : yOk yX3_copyFrom 1 := by unfold yOk; decide +kernel
theorem yk_yX3_init_0 : yOk yX3_init 0 := by unfold yOk; decide +kernel
theorem yk_yX3_number_1 : yOk yX3_number 1 := by unfold yOk; decide +kernel
theorem yk_yX4_forget_0 : yOk yX4_forget 0 := by unfold yOk; decide +kernel
theorem yk_yX4_goBack_2 : yOk yX4_goBack 2 := by unfold yOk; decide +kernel
theorem yk_yX4_init_0 : yOk yX4_init 0 := by unfold yOk; decide +kernel
theorem yk_yX4_keep_1 : yOk yX4_keep 1 := by unfold yOk; decide +kernel
theorem yk_yX4_takeBack_1 : yOk yX4_takeBack 1 := by unfold yOk; decide +kernel
theorem yk_yX4_takeImage_1 : yOk yX4_takeImage 1 := by unfold yOk; decide +kernel
theorem yk_yX5_draw_0 : yOk yX5_draw 0 := by unfold yOk; decide +kernel
theorem yk_yX5_drawBy_1 : yOk yX5_drawBy 1 := by unfold yOk; decide +kernel
theorem yk_yX5_endTick_0 : yOk yX5_endTick 0 := by unfold yOk; decide +kernel
theorem yk_yX5_exactThread_2 : yOk yX5_exactThread 2 := by unfold yOk; decide +kernel
theorem yk_yX5_goBy_2 : yOk yX5_goBy 2 := by unfold yOk; decide +kernel
theorem yk_yX5_idle_1 : yOk yX5_idle 1 := by unfold yOk; decide +kernel
theorem yk_yX5_init_0 : yOk yX5_init 0 := by unfold yOk; decide +kernel
theorem yk_yX5_meet_3 : yOk yX5_meet 3 := by unfold yOk; decide +kernel
theorem yk_yX5_needed_1 : yOk yX5_needed 1 := by unfold yOk; decide +kernel
theorem yk_yX5_run_2 : yOk yX5_run 2 := by unfold yOk; decide +kernel
theorem yk_yX5_showReel_4 : yOk yX5_showReel 4 := by unfold yOk; decide +kernel
theorem yk_yX5_signsSo_1 : yOk yX5_signsSo 1 := by unfold yOk; decide +kernel
theorem yk_yX5_slipBy_1 : yOk yX5_slipBy 1 := by unfold yOk; decide +kernel
theorem yk_yX5_slipNow_0 : yOk yX5_slipNow 0 := by unfold yOk; decide +kernel
theorem yk_yX5_snapWeakPlaces_3 : yOk yX5_snapWeakPlaces 3 := by unfold yOk; decide +kernel
theorem yk_yX5_sum_1 : yOk yX5_sum 1 := by unfold yOk; decide +kernel
theorem yk_yX5_waste_0 : yOk yX5_waste 0 := by unfold yOk; decide +kernel
theorem yk_yX5_worstChange_0 : yOk yX5_worstChange 0 := by unfold yOk; decide +kernel
theorem yk_yX6_carry_4 : yOk yX6_carry 4 := by unfold yOk; decide +kernel
theorem yk_yX6_init_0 : yOk yX6_init 0 := by unfold yOk; decide +kernel
theorem yk_yX6_soonestBack_1 : yOk yX6_soonestBack 1 := by unfold yOk; decide +kernel
theorem yk_yX7_allWeights_2 : yOk yX7_allWeights 2 := by unfold yOk; decide +kernel
theorem yk_yX7_believedBy_3 : yOk yX7_believedBy 3 := by unfold yOk; decide +kernel
theorem yk_yX7_clear_0 : yOk yX7_clear 0 := by unfold yOk; decide +kernel
theorem yk_yX7_copyFrom_1 : yOk yX7_copyFrom 1 := by unfold yOk; decide +kernel
theorem yk_yX7_cutOut_1 : yOk yX7_cutOut 1 := by unfold yOk; decide +kernel
theorem yk_yX7_init_0 : yOk yX7_init 0 := by unfold yOk; decide +kernel
theorem yk_yX7_isMarked_3 : yOk yX7_isMarked 3 := by unfold yOk; decide +kernel
theorem yk_yX7_isMeantPerhaps_2 : yOk yX7_isMeantPerhaps 2 := by unfold yOk; decide +kernel
theorem yk_yX7_isWeak_1 : yOk yX7_isWeak 1 := by unfold yOk; decide +kernel
theorem yk_yX7_likeliestFrame_2 : yOk yX7_likeliestFrame 2 := by unfold yOk; decide +kernel
theorem yk_yX7_markBy_2 : yOk yX7_markBy 2 := by unfold yOk; decide +kernel
theorem yk_yX7_mendedOn_1 : yOk yX7_mendedOn 1 := by unfold yOk; decide +kernel
theorem yk_yX7_pull_4 : yOk yX7_pull 4 := by unfold yOk; decide +kernel
theorem yk_yX7_reelAt_1 : yOk yX7_reelAt 1 := by unfold yOk; decide +kernel
theorem yk_yX7_sooner_3 : yOk yX7_sooner 3 := by unfold yOk; decide +kernel
theorem yk_yX7_weight_3 : yOk yX7_weight 3 := by unfold yOk; decide +kernel
theorem yk_yX8_add_3 : yOk yX8_add 3 := by unfold yOk; decide +kernel
theorem yk_yX8_at_2 : yOk yX8_at 2 := by unfold yOk; decide +kernel
theorem yk_yX8_clear_0 : yOk yX8_clear 0 := by unfold yOk; decide +kernel
theorem yk_yX8_copyFrom_1 : yOk yX8_copyFrom 1 := by unfold yOk; decide +kernel
theorem yk_yX8_has_1 : yOk yX8_has 1 := by unfold yOk; decide +kernel
theorem yk_yX8_howMany_2 : yOk yX8_howMany 2 := by unfold yOk; decide +kernel
theorem yk_yX8_init_2 : yOk yX8_init 2 := by unfold yOk; decide +kernel
theorem yk_yX8_isFull_0 : yOk yX8_isFull 0 := by unfold yOk; decide +kernel
theorem yk_yX8_put_3 : yOk yX8_put 3 := by unfold yOk; decide +kernel
theorem yk_yX9_findName_0 : yOk yX9_findName 0 := by unfold yOk; decide +kernel
theorem yk_yX9_hasRoom_1 : yOk yX9_hasRoom 1 := by unfold yOk; decide +kernel
theorem yk_yX9_init_0 : yOk yX9_init 0 := by unfold yOk; decide +kernel
theorem yk_yX9_is_1 : yOk yX9_is 1 := by unfold yOk; decide +kernel
theorem yk_yX9_isBoysLine_0 : yOk yX9_isBoysLine 0 := by unfold yOk; decide +kernel
theorem yk_yX9_isFollowed_0 : yOk yX9_isFollowed 0 := by unfold yOk; decide +kernel
theorem yk_yX9_isHouseLine_0 : yOk yX9_isHouseLine 0 := by unfold yOk; decide +kernel
theorem yk_yX9_isJoinLine_0 : yOk yX9_isJoinLine 0 := by unfold yOk; decide +kernel
theorem yk_yX9_isLabel_1 : yOk yX9_isLabel 1 := by unfold yOk; decide +kernel
theorem yk_yX9_isLine_0 : yOk yX9_isLine 0 := by unfold yOk; decide +kernel
theorem yk_yX9_isManLine_0 : yOk yX9_isManLine 0 := by unfold yOk; decide +kernel
theorem yk_yX9_isMarkLine_0 : yOk yX9_isMarkLine 0 := by unfold yOk; decide +kernel
theorem yk_yX9_isNewName_2 : yOk yX9_isNewName 2 := by unfold yOk; decide +kernel
theorem yk_yX9_isNumber_4 : yOk yX9_isNumber 4 := by unfold yOk; decide +kernel
theorem yk_yX9_isOldName_1 : yOk yX9_isOldName 1 := by unfold yOk; decide +kernel
theorem yk_yX9_isReelLine_0 : yOk yX9_isReelLine 0 := by unfold yOk; decide +kernel
theorem yk_yX9_isReserved_0 : yOk yX9_isReserved 0 := by unfold yOk; decide +kernel
theorem yk_yX9_isScratchLine_0 : yOk yX9_isScratchLine 0 := by unfold yOk; decide +kernel
theorem yk_yX9_isSeenLine_0 : yOk yX9_isSeenLine 0 := by unfold yOk; decide +kernel
theorem yk_yX9_isShowsLine_0 : yOk yX9_isShowsLine 0 := by unfold yOk; decide +kernel
theorem yk_yX9_isTownLine_0 : yOk yX9_isTownLine 0 := by unfold yOk; decide +kernel
theorem yk_yX9_isWeakLine_0 : yOk yX9_isWeakLine 0 := by unfold yOk; decide +kernel
theorem yk_yX9_isWhole_2 : yOk yX9_isWhole 2 := by unfold yOk; decide +kernel
theorem yk_yX9_kindAt_1 : yOk yX9_kindAt 1 := by unfold yOk; decide +kernel
theorem yk_yX9_kindOfMan_0 : yOk yX9_kindOfMan 0 := by unfold yOk; decide +kernel
theorem yk_yX9_lastFrame_1 : yOk yX9_lastFrame 1 := by unfold yOk; decide +kernel
theorem yk_yX9_next_0 : yOk yX9_next 0 := by unfold yOk; decide +kernel
theorem yk_yX9_read_1 : yOk yX9_read 1 := by unfold yOk; decide +kernel
theorem yk_yX9_refuseAt_2 : yOk yX9_refuseAt 2 := by unfold yOk; decide +kernel
theorem yk_yX9_write_1 : yOk yX9_write 1 := by unfold yOk; decide +kernel
