theorem WF_itm {p : PP} {a a' : IF} {i : Nat} (h : WF p a) (ha : ∀ n j, ¬ (n = (14, i, 0) ∧ (j = 6 ∨ j = 7)) → n.1 < 20 → a' n j = a n j) (hz : zb (a' (14, i, 0) 6)) : WF p a' := by
  have al : ∀ r k z j, r ≠ 14 → r < 20 → a' (r, k, z) j = a (r, k, z) j := fun r k z j g g2 => ha _ j (fun q => by have := q.1; simp only [Prod.mk.injEq] at this; exact g this.1) g2
  have a14 : ∀ k j, j ≠ 6 → j ≠ 7 → a' (14, k, 0) j = a (14, k, 0) j := fun k j g g2 => ha _ j (fun q => by omega) (show 14 < 20 by decide)
  obtain ⟨h1, h2, h3⟩ := h
  refine ⟨?_, fun k hk => ?_, fun s hs => ?_⟩
  · unfold W1 at *
    simp only [al 0 _ _ _ (show 0 ≠ 14 by decide) (show 0 < 20 by decide), al 1 _ _ _ (show 1 ≠ 14 by decide) (show 1 < 20 by decide), al 4 _ _ _ (show 4 ≠ 14 by decide) (show 4 < 20 by decide)]; exact h1
  · have g := h2 k hk
    unfold IS at *
    simp only [al 15 _ _ _ (show 15 ≠ 14 by decide) (show 15 < 20 by decide), al 16 _ _ _ (show 16 ≠ 14 by decide) (show 16 < 20 by decide), al 18 _ _ _ (show 18 ≠ 14 by decide) (show 18 < 20 by decide), a14 _ 0 (by decide) (by decide), a14 _ 2 (by decide) (by decide), a14 _ 3 (by decide) (by decide), a14 _ 9 (by decide) (by decide)]
    refine ⟨g.1, g.2.1, g.2.2.1, g.2.2.2.1, ?_, g.2.2.2.2.2⟩
    by_cases e : k = i
    · subst e; exact hz
    · rw [ha (14, k, 0) 6 (fun q => by have := q.1; simp only [Prod.mk.injEq] at this; exact e this.2.1) (show 14 < 20 by decide)]; exact g.2.2.2.2.1
  · have g := h3 s hs
    unfold SS at *
    simp only [al 6 _ _ _ (show 6 ≠ 14 by decide) (show 6 < 20 by decide), al 7 _ _ _ (show 7 ≠ 14 by decide) (show 7 < 20 by decide), al 10 _ _ _ (show 10 ≠ 14 by decide) (show 10 < 20 by decide), al 13 _ _ _ (show 13 ≠ 14 by decide) (show 13 < 20 by decide)]; exact g
theorem MX_itm {p : PP} {a a' b b' : IF} {i : Nat} (h : MX p a b) (ha : ∀ n j, ¬ (n = (14, i, 0) ∧ (j = 6 ∨ j = 7)) → n.1 < 20 → a' n j = a n j) (hb : ∀ n j, 20 ≤ n.1 → ¬ (n = (20, 0, 0) ∧ j = 0) → ¬ (n.1 = 21 ∧ (n.2.1 = 23 ∨ n.2.1 = 24) ∧ j = i) → b' n j = b n j) (hi : i < gT p) (e23 : b' (21, 23, 0) i = a' (14, i, 0) 6) (e24 : b' (21, 24, 0) i = a' (14, i, 0) 7) : MX p a' b' := by
  have al : ∀ r k z j, r ≠ 14 → r < 20 → a' (r, k, z) j = a (r, k, z) j := fun r k z j g g2 => ha _ j (fun q => by have := q.1; simp only [Prod.mk.injEq] at this; exact g this.1) g2
  have a14 : ∀ k j, j ≠ 6 → j ≠ 7 → a' (14, k, 0) j = a (14, k, 0) j := fun k j g g2 => ha _ j (fun q => by omega) (show 14 < 20 by decide)
  have bl : ∀ k j, k ≠ 23 → k ≠ 24 → b' (21, k, 0) j = b (21, k, 0) j := fun k j g1 g2 => hb _ j (show 20 ≤ 21 by decide) (by simp) (fun q => by have := q.2.1; simp only at this; omega)
  have bi : ∀ k j, j ≠ i → b' (21, k, 0) j = b (21, k, 0) j := fun k j g1 => hb _ j (show 20 ≤ 21 by decide) (by simp) (fun q => g1 q.2.2)
  have b20 : ∀ j, j ≠ 0 → b' (20, 0, 0) j = b (20, 0, 0) j := fun j g => hb _ j (show 20 ≤ 20 by decide) (fun q => g q.2) (by simp)
  obtain ⟨h1, h2, h3, z1, z2, z3, z4⟩ := h
  refine ⟨?_, fun u hu => ⟨?_, ?_⟩, fun k hk => ?_, ?_, ?_, ?_, ?_⟩
  · unfold MG at *
    rw [b20 1 (by decide), b20 35 (by decide), b20 3 (by decide), b20 15 (by decide)]
    simp only [al 0 _ _ _ (show 0 ≠ 14 by decide) (show 0 < 20 by decide), al 1 _ _ _ (show 1 ≠ 14 by decide) (show 1 < 20 by decide), bl 2 _ (by decide) (by decide)]; exact h1
  · have g := (h2 u hu).1
    unfold MS at *
    simp only [al 6 _ _ _ (show 6 ≠ 14 by decide) (show 6 < 20 by decide), al 7 _ _ _ (show 7 ≠ 14 by decide) (show 7 < 20 by decide), bl 4 _ (by decide) (by decide), bl 6 _ (by decide) (by decide), bl 7 _ (by decide) (by decide), bl 8 _ (by decide) (by decide), bl 9 _ (by decide) (by decide), bl 10 _ (by decide) (by decide), bl 11 _ (by decide) (by decide), bl 12 _ (by decide) (by decide), bl 13 _ (by decide) (by decide), bl 14 _ (by decide) (by decide)]
    exact g
  · have g := (h2 u hu).2
    unfold MM at *
    simp only [al 6 _ _ _ (show 6 ≠ 14 by decide) (show 6 < 20 by decide), al 10 _ _ _ (show 10 ≠ 14 by decide) (show 10 < 20 by decide), al 11 _ _ _ (show 11 ≠ 14 by decide) (show 11 < 20 by decide), al 12 _ _ _ (show 12 ≠ 14 by decide) (show 12 < 20 by decide), al 13 _ _ _ (show 13 ≠ 14 by decide) (show 13 < 20 by decide), bl 30 _ (by decide) (by decide), bl 31 _ (by decide) (by decide), bl 32 _ (by decide) (by decide), bl 33 _ (by decide) (by decide), bl 34 _ (by decide) (by decide)]
    exact g
  · obtain ⟨g1, g2, g3, g4, g5, g6, g7, g8, g9, g10, g11, g12, g13, g14⟩ := h3 k hk
    have a15 : ∀ r j, r ≠ 14 → r < 20 → a' (r, k, 0) j = a (r, k, 0) j := fun r j q w => al r k 0 j q w
    refine ⟨?_, ?_, ?_, ?_, ?_, ?_, ?_, ?_, ?_, ?_, ?_, ?_, fun q hq => ?_, fun q hq => ?_⟩
    · rw [bl 16 _ (by decide) (by decide)]; exact g1
    · rw [bl 17 _ (by decide) (by decide), a14 _ 2 (by decide) (by decide)]; exact g2
    · rw [bl 18 _ (by decide) (by decide), a14 _ 10 (by decide) (by decide)]; exact g3
    · rw [bl 19 _ (by decide) (by decide), a15 15 _ (by decide) (by decide)]; exact g4
    · rw [bl 20 _ (by decide) (by decide), a15 16 _ (by decide) (by decide)]; exact g5
    · rw [bl 21 _ (by decide) (by decide), a15 16 _ (by decide) (by decide)]; exact g6
    · rw [bl 22 _ (by decide) (by decide), a14 _ 3 (by decide) (by decide)]; exact g7
    · by_cases e : k = i
      · subst e; exact e23
      · rw [bi 23 _ e, ha (14, k, 0) 6 (fun q => by have := q.1; simp only [Prod.mk.injEq] at this; exact e this.2.1) (show 14 < 20 by decide)]; exact g8
    · by_cases e : k = i
      · subst e; exact e24
      · rw [bi 24 _ e, ha (14, k, 0) 7 (fun q => by have := q.1; simp only [Prod.mk.injEq] at this; exact e this.2.1) (show 14 < 20 by decide)]; exact g9
    · rw [bl 25 _ (by decide) (by decide), a14 _ 9 (by decide) (by decide)]; exact g10
    · rw [bl 26 _ (by decide) (by decide), a14 _ 8 (by decide) (by decide)]; exact g11
    · rw [bl 27 _ (by decide) (by decide), a15 16 _ (by decide) (by decide)]; exact g12
    · rw [bl 28 _ (by decide) (by decide), a15 17 _ (by decide) (by decide)]; exact g13 q hq
    · rw [bl 29 _ (by decide) (by decide), a15 18 _ (by decide) (by decide)]; exact g14 q hq
  · intro k s g1 g2 g3 g4; rw [bl k _ (by omega) (by omega)]; exact z1 k s g1 g2 g3 g4
  · intro s k g1 g2 g3; rw [bl 30 _ (by decide) (by decide)]; exact z2 s k g1 g2 g3
  · intro k j g1 g2 g3 g4; rw [bi k _ (by omega)]; exact z3 k j g1 g2 g3 g4
  · intro j k g1 g2 g3; rw [bl 28 _ (by decide) (by decide), bl 29 _ (by decide) (by decide)]; exact z4 j k g1 g2 g3
/-- after an item's marks were set by both halves -/
theorem LI_itm {N : Nat} {p : PP} {I I' b : IF} {i : Nat} (h : LI N p I) (hi : i < gT p) (ha : ∀ n j, ¬ (n = (14, i, 0) ∧ (j = 6 ∨ j = 7)) → I' n j = I n j) (hz : zb (I' (14, i, 0) 6)) (hb : ∀ n j, ¬ (n = (20, 0, 0) ∧ j = 0) → ¬ (n.1 = 21 ∧ (n.2.1 = 23 ∨ n.2.1 = 24) ∧ j = i) → b n j = I' n j) (e23 : b (21, 23, 0) i = I' (14, i, 0) 6) (e24 : b (21, 24, 0) i = I' (14, i, 0) 7) : LI N p b := by
  obtain ⟨t, hIV, hG, hH, hN⟩ := h
  have ha' : ∀ n j, ¬ (n = (14, i, 0) ∧ (j = 6 ∨ j = 7)) → n.1 < 20 → I' n j = I n j := fun n j g _ => ha n j g
  have hM := MX_itm hIV.2.1 ha' (fun n j q1 q2 q3 => by rw [hb n j q2 q3, ha n j (fun w => by rw [w.1] at q1; exact absurd q1 (by simp))]) hi e23 e24
  have b5 : ∀ s, b (21, 5, 0) s = I (21, 5, 0) s := fun s => by rw [hb _ _ (by simp) (by simp), ha _ _ (by simp)]
  have h2 := IV.itm hIV hi (WF_itm hIV.1 ha' hz) ha' hM b5
  refine LI.join h2 (fun n j hn => hb n j (fun q => by rw [q.1] at hn; exact absurd hn (by simp)) (fun q => by omega)) (HG.cg (fun j => ha _ _ (by simp)) (fun k j => ha _ _ (by simp)) (fun j => ha _ _ (by simp)) hG) (fun k hk => HI.itm ha' (hH k hk)) (by rw [hC_cg (fun j => ha _ _ (by simp))]; exact hN)
section
variable {N : Nat} {p : PP} {I : IF} {J : JF} {R : Int32 → Int32 → PH → Prop}
end
