theorem MX.g {p : PP} {a a' b b' : IF} (h : MX p a b) (ha : ∀ r k z j, r ≠ 0 → r ≠ 4 → r ≠ 5 → r ≠ 1 → a' (r, k, z) j = a (r, k, z) j) (hb : ∀ k j, k ≠ 2 → b' (21, k, 0) j = b (21, k, 0) j) (hG : MG a' b') : MX p a' b' := by
  obtain ⟨-, h2, h3, z1, z2, z3, z4⟩ := h
  have al : ∀ r k z j, 6 ≤ r → a' (r, k, z) j = a (r, k, z) j := fun r k z j g => ha r k z j (by omega) (by omega) (by omega) (by omega)
  refine ⟨hG, fun u hu => ⟨?_, ?_⟩, fun i hi => ?_, ?_, ?_, ?_, ?_⟩
  · have g := (h2 u hu).1
    unfold MS at *
    simp only [al 6 _ _ _ (by decide), al 7 _ _ _ (by decide), hb 4 _ (by decide), hb 6 _ (by decide), hb 7 _ (by decide), hb 8 _ (by decide), hb 9 _ (by decide), hb 10 _ (by decide), hb 11 _ (by decide), hb 12 _ (by decide), hb 13 _ (by decide), hb 14 _ (by decide)]
    exact g
  · have g := (h2 u hu).2
    unfold MM at *
    simp only [al 6 _ _ _ (by decide), al 10 _ _ _ (by decide), al 11 _ _ _ (by decide), al 12 _ _ _ (by decide), al 13 _ _ _ (by decide), hb 30 _ (by decide), hb 31 _ (by decide), hb 32 _ (by decide), hb 33 _ (by decide), hb 34 _ (by decide)]
    exact g
  · have g := h3 i hi
    unfold MI at *
    simp only [al 14 _ _ _ (by decide), al 15 _ _ _ (by decide), al 16 _ _ _ (by decide), al 17 _ _ _ (by decide), al 18 _ _ _ (by decide), hb 16 _ (by decide), hb 17 _ (by decide), hb 18 _ (by decide), hb 19 _ (by decide), hb 20 _ (by decide), hb 21 _ (by decide), hb 22 _ (by decide), hb 23 _ (by decide), hb 24 _ (by decide), hb 25 _ (by decide), hb 26 _ (by decide), hb 27 _ (by decide), hb 28 _ (by decide), hb 29 _ (by decide)]
    exact g
  · intro k s g1 g2 g3 g4; rw [hb k _ (by omega)]; exact z1 k s g1 g2 g3 g4
  · intro s k g1 g2 g3; rw [hb 30 _ (by decide)]; exact z2 s k g1 g2 g3
  · intro k i g1 g2 g3 g4; rw [hb k _ (by omega)]; exact z3 k i g1 g2 g3 g4
  · intro i k g1 g2 g3; rw [hb 28 _ (by decide), hb 29 _ (by decide)]; exact z4 i k g1 g2 g3
/-- all that ties the halves at the time t -/
def IV (p : PP) (a b : IF) (t : Nat) : Prop := WF p a ∧ MX p a b ∧ (∀ i, i < gT p → TI p a i t) ∧ (∀ s, s < gS p → SN p a s (4 * t)) ∧ (∀ s, s < gS p → TS a b s t) ∧ a (0, 0, 0) 8 = nI t ∧ OQ p a ∧ t ≤ 5000