/-! valueAt, itemAt, isMarked: the calls. -/
section
variable {N : Nat} {p : PP} {I : IF} {J : JF} {R : Int32 → Int32 → PH → Prop}
theorem nNI : ¬ xNE = xIO := by decide
theorem nIN : ¬ xIO = xNE := by decide
end
