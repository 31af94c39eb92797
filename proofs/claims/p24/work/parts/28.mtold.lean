/-! The model finds what is told. -/
def bI (x : Bool) : Int32 := cond x 1 0
theorem bI_0 {x : Bool} : bI x = 0 ↔ x = false := by cases x <;> decide
theorem bI_zb (x : Bool) : zb (bI x) := by cases x; exact zb0; exact zb1
theorem toB_big {p : PP} {a : IF} {s i : Nat} (h : gT p ≤ i) : toB p a s i = false := by
  unfold toB rB fB
  have : decide (i < gT p) = false := by simp; omega
  rw [this]; simp