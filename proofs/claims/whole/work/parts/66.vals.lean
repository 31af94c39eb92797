/-! valueAt, itemAt, isMarked. -/
theorem uq_of {p : PP} {a : IF} {s B : Nat} (hB : B < 2 ^ 31) (hN : SN p a s B) {q r : Nat} (hq : q < tn (a (6, s, 0) 9)) (hr : r < tn (a (6, s, 0) 9)) (e : a (10, s, gP p s q) 3 = a (10, s, gP p s r) 3) : q = r := by
  obtain ⟨ln, y, n1, n2, n3, n4⟩ := hN
  have g1 := n3 q hq
  have g2 := n3 r hr
  rw [g1.1, g2.1] at e
  have := (nI_eq (by omega) (by omega)).mp e
  rcases Nat.lt_trichotomy q r with w | w | w
  · have := n4 q r w hr; omega
  · exact w
  · have := n4 r q w hq; omega
section
variable {N : Nat} {p : PP} {I : IF} {J : JF} {R : Int32 → Int32 → PH → Prop}
theorem m_place_no {P : PP} {a b : IF} {J : JF} {x y z : Int32} (hW : WF p a) (hM : MX p a b) (hn : ∀ s, s < gS p → x = nI s → a (6, s, 0) 7 = 0) {Q : Int32 → PH → Prop} (h : Q (-1) (S P (up b (20, 0, 0) 0 1) J)) : w7_placeOf (20, 0, 0) x y z (S P b J) Q := by
  unfold w7_placeOf
  refine ⟨rfl, m_isSub hW hM (fun s hs e l => absurd (hn s hs e) l) (fun _ => ⟨fun _ => m_isSub hW hM (fun s hs e l => absurd (hn s hs e) l) (fun _ => ⟨fun w => absurd rfl w, fun _ => ?_⟩), fun w => absurd rfl w⟩)⟩
  rw [forall_eq, sI_S]; exact h
end
