/-! open: the model. -/
theorem bn_no {x : Int32} {lo hi : Nat} (h : ∀ k, lo ≤ k → k ≤ hi → x ≠ nI k) : ¬ bn x lo hi := fun ⟨k, a, b, e⟩ => h k a b e