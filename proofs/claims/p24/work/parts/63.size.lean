theorem slot_of {p : PP} {a b : IF} {s B q : Nat} {x : Int32} (hB : B < 2 ^ 31) (hM : MM p a b s) (hN : SN p a s B) (hq : q < tn (a (6, s, 0) 9)) (e : a (10, s, gP p s q) 3 = x) : ¬ x ≤ 0 ∧ ∃ k, k < 5 ∧ b (21, 30, 0) (5 * s + k) = x ∧ b (21, 31, 0) (5 * s + k) = a (10, s, gP p s q) 4 ∧ (∀ n, n < tn (a (10, s, gP p s q) 4) → b (21, 32, 0) (10 * (5 * s + k) + n) = a (11, s, gP p s q) n ∧ b (21, 33, 0) (10 * (5 * s + k) + n) = a (12, s, gP p s q) n ∧ b (21, 34, 0) (10 * (5 * s + k) + n) = a (13, s, gP p s q) n) ∧ ∀ l, l < 5 → b (21, 30, 0) (5 * s + l) = x → l = k := by
  obtain ⟨ln, y, n1, n2, n3, n4⟩ := hN
  obtain ⟨m1, m2, m3⟩ := hM
  obtain ⟨k, k1, k2, k3, k4⟩ := m1 q hq
  have g := n3 q hq
  rw [e] at k2
  have ex : x = nI (y q) := by rw [← e]; exact g.1
  refine ⟨by rw [ex, nI_le0 (by omega)]; omega, k, k1, k2, k3, k4, fun l hl w => ?_⟩
  refine m3 l k hl k1 ?_ (by rw [w, k2])
  rw [w, ex, Ne, nI_e0 (by omega)]; omega
theorem slot_no {p : PP} {a b : IF} {s : Nat} {x : Int32} (hM : MM p a b s) (hn : ∀ q, q < tn (a (6, s, 0) 9) → a (10, s, gP p s q) 3 ≠ x) {k : Nat} (hk : k < 5) (e : b (21, 30, 0) (5 * s + k) = x) (hx : ¬ x ≤ 0) : False := by
  rcases hM.2.1 k hk with w | ⟨q, w1, w2⟩
  · rw [w] at e; subst e; exact hx (by decide)
  · exact hn q w1 (by rw [← w2]; exact e)
section
variable {N : Nat} {p : PP} {I : IF} {J : JF} {R : Int32 → Int32 → PH → Prop}
end
