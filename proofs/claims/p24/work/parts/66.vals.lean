/-! valueAt, itemAt, isMarked. -/
theorem uq_of {p : PP} {a : IF} {s B : Nat} (hB : B < 2 ^ 31) (hN : SN p a s B) {q r : Nat} (hq : q < tn (a (6, s, 0) 9)) (hr : r < tn (a (6, s, 0) 9)) (e : a (10, s, gP p s q) 3 = a (10, s, gP p s r) 3) : q = r := by
  obtain ⟨ln, y, n1, n2, n3, n4⟩ := hN
  have g1 := n3 q hq
  have g2 := n3 r hr
  rw [g1.1, g2.1] at e
  have := (nI_eq (by omega) (by omega)).mp e
  rcases Nat.lt_trichotomy q r with w | w | w
  · have := n4 q r w hr; omega
  · exact w
  · have := n4 r q w hq; omega
section
variable {N : Nat} {p : PP} {I : IF} {J : JF} {R : Int32 → Int32 → PH → Prop}
end
