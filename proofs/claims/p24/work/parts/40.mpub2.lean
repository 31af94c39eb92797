theorem MX.sub {p : PP} {a a' b b' : IF} {s : Nat} (h : MX p a b) (ha : ∀ n j, ¬ (n = (0, 0, 0) ∧ j = 7) → ¬ (n = (6, s, 0) ∧ (j = 7 ∨ 11 ≤ j)) → ¬ (n = (7, s, 0) ∧ j = 1) → a' n j = a n j) (hb : ∀ n j, ¬ (n = (20, 0, 0) ∧ (j = 35 ∨ j = 0)) → ¬ (n.1 = 21 ∧ (n.2.1 = 4 ∨ 11 ≤ n.2.1 ∧ n.2.1 ≤ 14) ∧ j = s) → b' n j = b n j) (h35 : b' (20, 0, 0) 35 = a' (0, 0, 0) 7) (hs : s < gS p) (hS : MS a' b' s) : MX p a' b' := by
  obtain ⟨h1, h2, h3, h4⟩ := h
  have al : ∀ r k z j, (r ≠ 0 ∧ r ≠ 6 ∧ r ≠ 7) ∨ (r ≠ 0 ∧ k ≠ s) ∨ (r = 0 ∧ j ≠ 7) ∨ (r = 6 ∧ j ≠ 7 ∧ j < 11) ∨ (r = 7 ∧ j ≠ 1) → a' (r, k, z) j = a (r, k, z) j := fun r k z j g => ha _ j (fun q => by have := q.1; simp only [Prod.mk.injEq] at this; omega) (fun q => by have := q.1; simp only [Prod.mk.injEq] at this; omega) (fun q => by have := q.1; simp only [Prod.mk.injEq] at this; omega)
  have bl : ∀ k j, (k ≠ 4 ∧ (k < 11 ∨ 14 < k)) ∨ j ≠ s → b' (21, k, 0) j = b (21, k, 0) j := fun k j g => hb _ j (fun q => by have := q.1; simp only [Prod.mk.injEq] at this; omega) (fun q => by simp only at q; omega)
  have al1 : ∀ r k z j, r ≠ 0 → r ≠ 6 → r ≠ 7 → a' (r, k, z) j = a (r, k, z) j := fun r k z j g1 g2 g3 => al r k z j (Or.inl ⟨g1, g2, g3⟩)
  have al9 : ∀ k, a' (6, k, 0) 9 = a (6, k, 0) 9 := fun k => al 6 k 0 9 (by omega)
  have bl1 : ∀ k j, k ≠ 4 → (k < 11 ∨ 14 < k) → b' (21, k, 0) j = b (21, k, 0) j := fun k j g1 g2 => bl k j (Or.inl ⟨g1, g2⟩)
  have b20 : ∀ j, j ≠ 35 → j ≠ 0 → b' (20, 0, 0) j = b (20, 0, 0) j := fun j g g2 => hb _ j (fun q => by omega) (fun q => by simp only at q; omega)
  refine ⟨?_, fun u hu => ⟨?_, ?_⟩, fun i hi => ?_, ?_⟩
  · obtain ⟨g1, g2, g3, g4, g5⟩ := h1
    refine ⟨?_, h35, ?_, ?_, fun k hk => ?_⟩
    · rw [b20 1 (by decide) (by decide), al 0 _ _ 8 (by omega)]; exact g1
    · rw [b20 3 (by decide) (by decide), al 0 _ _ 5 (by omega)]; exact g3
    · rw [b20 15 (by decide) (by decide), al 0 _ _ 6 (by omega)]; exact g4
    · rw [bl 2 _ (by omega), al 1 _ _ _ (by omega)]; exact g5 k hk
  · by_cases e : u = s
    · subst e; exact hS
    · have g := (h2 u hu).1
      unfold MS at *
      simp only [bl 4 _ (Or.inr e), bl 6 _ (Or.inr e), bl 7 _ (Or.inr e), bl 8 _ (Or.inr e), bl 9 _ (Or.inr e), bl 10 _ (Or.inr e), bl 11 _ (Or.inr e), bl 12 _ (Or.inr e), bl 13 _ (Or.inr e), bl 14 _ (Or.inr e), al 6 u _ _ (Or.inr (Or.inl ⟨by decide, e⟩)), al 7 u _ _ (Or.inr (Or.inl ⟨by decide, e⟩))]
      exact g
  · have g := (h2 u hu).2
    unfold MM at *
    simp only [bl1 30 _ (by decide) (by decide), bl1 31 _ (by decide) (by decide), bl1 32 _ (by decide) (by decide), bl1 33 _ (by decide) (by decide), bl1 34 _ (by decide) (by decide), al9, al1 10 _ _ _ (by decide) (by decide) (by decide), al1 11 _ _ _ (by decide) (by decide) (by decide), al1 12 _ _ _ (by decide) (by decide) (by decide), al1 13 _ _ _ (by decide) (by decide) (by decide)]
    exact g
  · have g := h3 i hi
    unfold MI at *
    simp only [al1 14 _ _ _ (by decide) (by decide) (by decide), al1 15 _ _ _ (by decide) (by decide) (by decide), al1 16 _ _ _ (by decide) (by decide) (by decide), al1 17 _ _ _ (by decide) (by decide) (by decide), al1 18 _ _ _ (by decide) (by decide) (by decide), bl1 16 _ (by decide) (by decide), bl1 17 _ (by decide) (by decide), bl1 18 _ (by decide) (by decide), bl1 19 _ (by decide) (by decide), bl1 20 _ (by decide) (by decide), bl1 21 _ (by decide) (by decide), bl1 22 _ (by decide) (by decide), bl1 23 _ (by decide) (by decide), bl1 24 _ (by decide) (by decide), bl1 25 _ (by decide) (by decide), bl1 26 _ (by decide) (by decide), bl1 27 _ (by decide) (by decide), bl1 28 _ (by decide) (by decide), bl1 29 _ (by decide) (by decide)]
    exact g
  · obtain ⟨z1, z2, z3, z4⟩ := h4
    refine ⟨fun k u g1 g2 g3 g4 => ?_, fun u k g1 g2 g3 => ?_, fun k j g1 g2 g3 g4 => ?_, fun j k g1 g2 g3 => ⟨?_, ?_⟩⟩
    · rw [bl k _ (by omega)]; exact z1 k u g1 g2 g3 g4
    · rw [bl 30 _ (by omega)]; exact z2 u k g1 g2 g3
    · rw [bl k _ (by omega)]; exact z3 k j g1 g2 g3 g4
    · rw [bl 28 _ (by omega)]; exact (z4 j k g1 g2 g3).1
    · rw [bl 29 _ (by omega)]; exact (z4 j k g1 g2 g3).2
theorem SN.cg {p p' : PP} {a a' : IF} {s B : Nat} (hp : gP p' s = gP p s) (h9 : a' (6, s, 0) 9 = a (6, s, 0) 9) (h10 : a' (6, s, 0) 10 = a (6, s, 0) 10) (h3 : ∀ o, a' (10, s, o) 3 = a (10, s, o) 3) (h : SN p a s B) : SN p' a' s B := by
  unfold SN at *
  simp only [h9, h10, h3, hp]; exact h
theorem SN.mono {p : PP} {a : IF} {s B C : Nat} (h : SN p a s B) (hc : B ≤ C) : SN p a s C := by
  obtain ⟨ln, x, n1, n2, n3⟩ := h
  exact ⟨ln, x, n1, by omega, n3⟩
theorem SN_next {p p' : PP} {a a1 : IF} {s o K B : Nat} (hN : NX p a s p' a1 o K) (h : SN p a s B) : SN p' a1 s (B + 1) ∧ (∀ q, q < K → a1 (10, s, gP p' s q) 3 = a (10, s, gP p s (q + (tn (a (6, s, 0) 9) - K))) 3) ∧ (B + 1 < 2 ^ 31 → (∀ q, q < K → a1 (10, s, gP p' s q) 3 ≠ a1 (10, s, o) 3) ∧ a1 (10, s, o) 3 ≠ 0) := by
  obtain ⟨-, x2, x3, x4, x5, x6, x7, x8, x9, x10, x11, x12, x13⟩ := hN
  obtain ⟨ln, x, n1, n2, n3, n4⟩ := h
  have e3 : ∀ q, q < K → a1 (10, s, gP p' s q) 3 = a (10, s, gP p s (q + (tn (a (6, s, 0) 9) - K))) 3 := by
    intro q hq
    rw [x13 _ 3 (by simp) (fun w => (x8 q hq).2 (by have := w.2; simp only [Prod.mk.injEq] at this; exact this.2)), (x8 q hq).1]
  have hoff : ∀ q, q < K → q + (tn (a (6, s, 0) 9) - K) < tn (a (6, s, 0) 9) := by intro q hq; omega
  have t9 : tn (a1 (6, s, 0) 9) = K + 1 := by rw [x9, tn_nI (by omega)]
  refine ⟨⟨ln + 1, fun q => if q < K then x (q + (tn (a (6, s, 0) 9) - K)) else ln + 1, by rw [x10, n1, nI_1], by omega, fun q hq => ?_, fun q r hqr hr => ?_⟩, e3, fun hB => ⟨fun q hq => ?_, ?_⟩⟩
  · rw [t9] at hq
    dsimp only
    by_cases e : q < K
    · rw [if_pos e, e3 q e]
      have := n3 _ (hoff q e)
      exact ⟨this.1, this.2.1, by omega⟩
    · have : q = K := by omega
      subst this
      rw [if_neg e, x5, x11, n1, nI_1]
      exact ⟨rfl, by omega, by omega⟩
  · rw [t9] at hr
    show (if q < K then x (q + (tn (a (6, s, 0) 9) - K)) else ln + 1) < (if r < K then x (r + (tn (a (6, s, 0) 9) - K)) else ln + 1)
    rw [if_pos (by omega)]
    by_cases e : r < K
    · rw [if_pos e]; exact n4 _ _ (by omega) (hoff r e)
    · rw [if_neg e]
      have := n3 _ (hoff q (by omega))
      omega
  · have := n3 _ (hoff q hq)
    rw [e3 q hq, this.1, x11, n1, nI_1, Ne, nI_eq (by omega) (by omega)]; omega
  · rw [x11, n1, nI_1, Ne, nI_e0 (by omega)]; omega
theorem FR_up21 {b : IF} {k j : Nat} {v : Int32} (h : k ≠ 5) : FR b (up b (21, k, 0) j v) := by
  intro n i q
  exact up_ne (fun w => by rw [w.1] at q; simp only at q; omega)
theorem FR_up20 {b : IF} {j : Nat} {v : Int32} (h : j ≠ 0) : FR b (up b (20, 0, 0) j v) := by
  intro n i q
  exact up_ne (fun w => by rw [w.1] at q; simp only at q; omega)