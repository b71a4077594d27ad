/-- what one State holds: counts of reels, marks, weak places, places; mended, trims; the four tables -/
abbrev SC : Type := Int32 × Int32 × Int32 × Int32 × Int32 × Int32 × (Nat → Int32) × (Nat → Int32) × (Nat → Int32) × (Nat → Int32)
def ucf (cf : Nat → SC) (i : Nat) (c : SC) : Nat → SC := fun j => if j = i then c else cf j
theorem ucf_at {cf : Nat → SC} {i : Nat} {c : SC} : ucf cf i c i = c := if_pos rfl
theorem ucf_ne {cf : Nat → SC} {i j : Nat} {c : SC} (h : j ≠ i) : ucf cf i c j = cf j := if_neg h
