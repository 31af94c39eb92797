section
variable {N : Nat} {p : PP} {I : IF} {J : JF} {R : Int32 → Int32 → PH → Prop}
theorem IV.itm {p : PP} {a a' b b' : IF} {i t : Nat} (h : IV p a b t) (hi : i < gT p) (hW : WF p a') (ha : ∀ n j, ¬ (n = (14, i, 0) ∧ (j = 6 ∨ j = 7)) → n.1 < 20 → a' n j = a n j) (hM : MX p a' b') (h5 : ∀ s, b' (21, 5, 0) s = b (21, 5, 0) s) : IV p a' b' t := by
  have al : ∀ r k z j, r ≠ 14 → r < 20 → a' (r, k, z) j = a (r, k, z) j := fun r k z j g g2 => ha _ j (fun q => by have := q.1; simp only [Prod.mk.injEq] at this; exact g this.1) g2
  have a14 : ∀ k j, j ≠ 6 → j ≠ 7 → a' (14, k, 0) j = a (14, k, 0) j := fun k j g g2 => ha _ j (fun q => by omega) (show 14 < 20 by decide)
  obtain ⟨-, -, h3, h4, h6, h7, h8, h9⟩ := h
  refine ⟨hW, hM, fun i hi => ?_, fun s hs => ?_, fun s hs => ?_, ?_, ?_, h9⟩
  · have := h3 i hi
    unfold TI at *
    rw [al 6 _ _ _ (by decide) (by decide), al 15 _ _ _ (by decide) (by decide), al 15 _ _ _ (by decide) (by decide), a14 _ 10 (by decide) (by decide), a14 _ 8 (by decide) (by decide)]; exact this
  · exact SN.cg rfl (al 6 _ _ _ (by decide) (by decide)) (al 6 _ _ _ (by decide) (by decide)) (fun o => al 10 _ _ _ (by decide) (by decide)) (h4 s hs)
  · have := h6 s hs
    unfold TS at *
    rw [al 6 _ _ _ (by decide) (by decide), al 7 _ _ _ (by decide) (by decide), al 7 _ _ _ (by decide) (by decide), h5]; exact this
  · rw [al 0 _ _ _ (by decide) (by decide)]; exact h7
  · unfold OQ pr at *
    simp only [al 6 _ _ _ (show 6 ≠ 14 by decide) (show 6 < 20 by decide)]; exact h8
theorem HI.itm {p : PP} {a a' : IF} {i k t : Nat} (ha : ∀ n j, ¬ (n = (14, i, 0) ∧ (j = 6 ∨ j = 7)) → n.1 < 20 → a' n j = a n j) (h : HI p a k t) : HI p a' k t := by
  have al : ∀ r k z j, r ≠ 14 → r < 20 → a' (r, k, z) j = a (r, k, z) j := fun r k z j g g2 => ha _ j (fun q => by have := q.1; simp only [Prod.mk.injEq] at this; exact g this.1) g2
  have a14 : ∀ k j, j ≠ 6 → j ≠ 7 → a' (14, k, 0) j = a (14, k, 0) j := fun k j g g2 => ha _ j (fun q => by omega) (show 14 < 20 by decide)
  unfold HI hR_ hC hTk hNd hVl at *
  simp only [al 6 _ _ _ (show 6 ≠ 14 by decide) (show 6 < 20 by decide), al 4 _ _ _ (show 4 ≠ 14 by decide) (show 4 < 20 by decide), al 5 _ _ _ (show 5 ≠ 14 by decide) (show 5 < 20 by decide), al 15 _ _ _ (show 15 ≠ 14 by decide) (show 15 < 20 by decide), a14 _ 11 (by decide) (by decide), a14 _ 10 (by decide) (by decide), a14 _ 8 (by decide) (by decide), a14 _ 9 (by decide) (by decide), a14 _ 2 (by decide) (by decide), a14 _ 3 (by decide) (by decide)]
  exact h
end
