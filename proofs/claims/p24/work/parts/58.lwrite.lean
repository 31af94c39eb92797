theorem WF_wr {p : PP} {I : IF} {k v t : Nat} (h : WF p I) (hk : k < 10) (hv : v ≤ 1000) (hc : hC I < 512) : WF p (wrA I k (hC I) (nI t) (nI v)) := by
  have uo : ∀ r z o j, r ≠ 1 ∧ r ≠ 4 ∧ r ≠ 5 → wrA I k (hC I) (nI t) (nI v) (r, z, o) j = I (r, z, o) j := fun r z o j g => wrA_o g
  obtain ⟨w1, w2, w3⟩ := h
  refine ⟨?_, fun i hi => ?_, fun u hu => ?_⟩
  · unfold W1 at *
    simp only [uo 0 _ _ _ (by decide)]
    refine ⟨w1.1, w1.2.1, w1.2.2.1, w1.2.2.2.1, fun j hj => ?_, w1.2.2.2.2.2.1, w1.2.2.2.2.2.2.1, w1.2.2.2.2.2.2.2.1, ?_⟩
    · rw [wrA_1]; split
      · exact bn_nI (Nat.zero_le _) hv
      · exact w1.2.2.2.2.1 j hj
    · rw [wrA_4]; exact bn_nI (Nat.zero_le _) (by omega)
  · have g := w2 i hi
    unfold IS at *
    simp only [uo 14 _ _ _ (by decide), uo 15 _ _ _ (by decide), uo 16 _ _ _ (by decide), uo 18 _ _ _ (by decide)]
    exact g
  · have g := w3 u hu
    unfold SS at *
    simp only [uo 6 _ _ _ (by decide), uo 7 _ _ _ (by decide), uo 10 _ _ _ (by decide), uo 13 _ _ _ (by decide)]
    exact g
section
variable {N : Nat} {p : PP} {I : IF} {J : JF} {R : Int32 → Int32 → PH → Prop}
end
