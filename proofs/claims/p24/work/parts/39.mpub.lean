/-! The model publishes. -/
theorem gv1_3 {a : IF} {i s o s' o' j : Nat} (h : j ≠ 4) : gv1 a i s o (10, s', o') j = a (10, s', o') j := by
  by_cases e : s' = s ∧ o' = o
  · obtain ⟨rfl, rfl⟩ := e; exact gv1_10j h
  · exact gv1_o ⟨fun y => e (by have := y.2; simp only [Prod.mk.injEq] at this; exact this), fun y => by simp only at y; omega⟩
theorem gvN_3 {i s o s' o' j : Nat} (h : j ≠ 4) : ∀ (d : Nat) (a : IF), gvN i s o d a (10, s', o') j = a (10, s', o') j := by
  intro d
  induction d with
  | zero => intro a; rfl
  | succ d ih => intro a; rw [gvN, ih, gv1_3 h]
theorem flL_3 {s o mo s' o' j : Nat} {T : Int32} (h : j ≠ 4) : ∀ (d k : Nat) (a : IF), flL s o mo T k d a (10, s', o') j = a (10, s', o') j := by
  intro d
  induction d with
  | zero => intro k a; rfl
  | succ d ih =>
    intro k a
    rw [flL, ih]
    split
    · exact gvN_3 h _ _
    · rfl
theorem z23_o {a : IF} {s : Nat} {n : Nm} {j : Nat} (h : ¬ (n = (6, s, 0) ∧ (j = 12 ∨ j = 13))) : z23 a s n j = a n j := by
  rw [z23, up_ne (fun q => h ⟨q.1, Or.inr q.2⟩), up_ne (fun q => h ⟨q.1, Or.inl q.2⟩)]
theorem MXs_end {p : PP} {a b : IF} {s at_ o K n : Nat} (h : MXs p a b s at_ o K n) (hs : s < gS p) (hat : at_ < 5) (hn : n ≤ 10) (hk9 : a (6, s, 0) 9 = nI (K + 1)) (hK5 : K < 5) (ho : gP p s K = o) (hd : ∀ q, q < K → a (10, s, gP p s q) 3 ≠ a (10, s, o) 3) (h0 : a (10, s, o) 3 ≠ 0) : MX p (z23 a s) (up b (21, 31, 0) (5 * s + at_) (nI n)) := by
  obtain ⟨h1, h2, h3, ⟨p1, p2, p3, p4, p5, p6⟩, h5, h6⟩ := h
  have zo : ∀ r k z j, (r ≠ 6 ∨ k ≠ s ∨ (j ≠ 12 ∧ j ≠ 13)) → z23 a s (r, k, z) j = a (r, k, z) j := fun r k z j g => z23_o (fun q => by have := q.1; simp only [Prod.mk.injEq] at this; omega)
  have bo : ∀ k j, (k ≠ 31 ∨ j ≠ 5 * s + at_) → up b (21, 31, 0) (5 * s + at_) (nI n) (21, k, 0) j = b (21, k, 0) j := fun k j g => up_ne (fun q => by have := q.1; simp only [Prod.mk.injEq] at this; omega)
  have b20 : ∀ j, up b (21, 31, 0) (5 * s + at_) (nI n) (20, 0, 0) j = b (20, 0, 0) j := fun j => up_ne (by simp)
  have tk : tn (z23 a s (6, s, 0) 9) = K + 1 := by rw [zo 6 _ _ 9 (Or.inr (Or.inr (by decide))), hk9, tn_nI (by omega)]
  refine ⟨?_, fun u hu => ?_, fun i hi => ?_, ?_⟩
  · unfold MG at *
    simp only [b20, bo 2 _ (Or.inl (by decide)), zo 0 _ _ _ (Or.inl (by decide)), zo 1 _ _ _ (Or.inl (by decide))]
    exact h1
  · by_cases e : u = s
    · subst e
      refine ⟨?_, fun q hq => ?_, fun k hk => ?_, fun k l hk hl => ?_⟩
      · unfold MS MSm at *
        simp only [bo 4 _ (Or.inl (by decide)), bo 6 _ (Or.inl (by decide)), bo 7 _ (Or.inl (by decide)), bo 8 _ (Or.inl (by decide)), bo 9 _ (Or.inl (by decide)), bo 10 _ (Or.inl (by decide)), bo 11 _ (Or.inl (by decide)), bo 12 _ (Or.inl (by decide)), bo 13 _ (Or.inl (by decide)), bo 14 _ (Or.inl (by decide)), zo 7 _ _ _ (Or.inl (by decide)), zo 6 _ _ 7 (Or.inr (Or.inr (by decide))), zo 6 _ _ 1 (Or.inr (Or.inr (by decide))), zo 6 _ _ 2 (Or.inr (Or.inr (by decide))), zo 6 _ _ 3 (Or.inr (Or.inr (by decide))), zo 6 _ _ 4 (Or.inr (Or.inr (by decide))), zo 6 _ _ 10 (Or.inr (Or.inr (by decide))), zo 6 _ _ 11 (Or.inr (Or.inr (by decide)))]
        obtain ⟨g1, g2, g3, g4, g5, g6, g7, g8, g9, g10⟩ := h3
        refine ⟨g1, g2, g3, g4, g5, g6, ?_, ?_, g7, g8⟩
        · rw [g9, z23, up_nj (by decide), up_same]
        · rw [g10, z23, up_same]
      · rw [tk] at hq
        by_cases e : q = K
        · subst e
          rw [ho]
          refine ⟨at_, hat, by rw [bo 30 _ (Or.inl (by decide)), zo 10 _ _ _ (Or.inl (by decide))]; exact p3, by rw [up_same, zo 10 _ _ _ (Or.inl (by decide)), p4], fun m hm => ?_⟩
          rw [zo 10 _ _ _ (Or.inl (by decide)), p4] at hm
          rw [bo 32 _ (Or.inl (by decide)), bo 33 _ (Or.inl (by decide)), bo 34 _ (Or.inl (by decide)), zo 11 _ _ _ (Or.inl (by decide)), zo 12 _ _ _ (Or.inl (by decide)), zo 13 _ _ _ (Or.inl (by decide))]
          refine p5 m ?_
          rw [tn_nI (by omega)] at hm; exact hm
        · obtain ⟨k, k1, k2, k3, k4, k5⟩ := p1 q (by omega)
          refine ⟨k, k1, by rw [bo 30 _ (Or.inl (by decide)), zo 10 _ _ _ (Or.inl (by decide))]; exact k3, by rw [bo 31 _ (Or.inr (by omega)), zo 10 _ _ _ (Or.inl (by decide))]; exact k4, fun m hm => ?_⟩
          rw [zo 10 _ _ _ (Or.inl (by decide))] at hm
          rw [bo 32 _ (Or.inl (by decide)), bo 33 _ (Or.inl (by decide)), bo 34 _ (Or.inl (by decide)), zo 11 _ _ _ (Or.inl (by decide)), zo 12 _ _ _ (Or.inl (by decide)), zo 13 _ _ _ (Or.inl (by decide))]
          exact k5 m hm
      · rw [tk, bo 30 _ (Or.inl (by decide))]
        by_cases e : k = at_
        · subst e
          exact Or.inr ⟨K, by omega, by rw [zo 10 _ _ _ (Or.inl (by decide)), ho]; exact p3⟩
        · rcases p2 k hk e with w | ⟨q, w1, w2⟩
          · exact Or.inl w
          · exact Or.inr ⟨q, by omega, by rw [zo 10 _ _ _ (Or.inl (by decide))]; exact w2⟩
      · rw [bo 30 _ (Or.inl (by decide)), bo 30 _ (Or.inl (by decide))]
        intro g0 g1
        by_cases e : k = at_
        · by_cases f : l = at_
          · omega
          · exfalso
            rw [e, p3] at g1 g0
            rcases p2 l hl f with w | ⟨q, w1, w2⟩
            · rw [w] at g1; exact g0 g1
            · rw [w2] at g1; exact hd q w1 g1.symm
        · by_cases f : l = at_
          · exfalso
            rw [f, p3] at g1
            rcases p2 k hk e with w | ⟨q, w1, w2⟩
            · exact g0 w
            · rw [w2] at g1; exact hd q w1 g1
          · exact p6 k l hk hl e f g0 g1
    · obtain ⟨g1, g2⟩ := h2 u hu e
      refine ⟨?_, ?_⟩
      · unfold MS at *
        simp only [bo 4 _ (Or.inl (by decide)), bo 6 _ (Or.inl (by decide)), bo 7 _ (Or.inl (by decide)), bo 8 _ (Or.inl (by decide)), bo 9 _ (Or.inl (by decide)), bo 10 _ (Or.inl (by decide)), bo 11 _ (Or.inl (by decide)), bo 12 _ (Or.inl (by decide)), bo 13 _ (Or.inl (by decide)), bo 14 _ (Or.inl (by decide)), zo 7 _ _ _ (Or.inl (by decide)), zo 6 u _ _ (Or.inr (Or.inl e))]
        exact g1
      · have b31 : ∀ k, k < 5 → up b (21, 31, 0) (5 * s + at_) (nI n) (21, 31, 0) (5 * u + k) = b (21, 31, 0) (5 * u + k) := fun k hk => bo 31 _ (Or.inr (by omega))
        unfold MM MC at *
        simp only [bo 30 _ (Or.inl (by decide)), bo 32 _ (Or.inl (by decide)), bo 33 _ (Or.inl (by decide)), bo 34 _ (Or.inl (by decide)), zo 6 u _ _ (Or.inr (Or.inl e)), zo 10 _ _ _ (Or.inl (by decide)), zo 11 _ _ _ (Or.inl (by decide)), zo 12 _ _ _ (Or.inl (by decide)), zo 13 _ _ _ (Or.inl (by decide))]
        refine ⟨fun q hq => ?_, g2.2⟩
        obtain ⟨k, k1, k2, k3, k4⟩ := g2.1 q hq
        exact ⟨k, k1, k2, by rw [b31 k k1]; exact k3, k4⟩
  · have g := h5 i hi
    unfold MI at *
    simp only [zo 14 _ _ _ (Or.inl (by decide)), zo 15 _ _ _ (Or.inl (by decide)), zo 16 _ _ _ (Or.inl (by decide)), zo 17 _ _ _ (Or.inl (by decide)), zo 18 _ _ _ (Or.inl (by decide)), bo 16 _ (Or.inl (by decide)), bo 17 _ (Or.inl (by decide)), bo 18 _ (Or.inl (by decide)), bo 19 _ (Or.inl (by decide)), bo 20 _ (Or.inl (by decide)), bo 21 _ (Or.inl (by decide)), bo 22 _ (Or.inl (by decide)), bo 23 _ (Or.inl (by decide)), bo 24 _ (Or.inl (by decide)), bo 25 _ (Or.inl (by decide)), bo 26 _ (Or.inl (by decide)), bo 27 _ (Or.inl (by decide)), bo 28 _ (Or.inl (by decide)), bo 29 _ (Or.inl (by decide))]
    exact g
  · obtain ⟨z1, z2, z3, z4⟩ := h6
    refine ⟨fun k u g1 g2 g3 g4 => ?_, fun u k g1 g2 g3 => ?_, fun k j g1 g2 g3 g4 => ?_, fun j k g1 g2 g3 => ⟨?_, ?_⟩⟩
    · rw [bo k _ (Or.inl (by omega))]; exact z1 k u g1 g2 g3 g4
    · rw [bo 30 _ (Or.inl (by decide))]; exact z2 u k g1 g2 g3
    · rw [bo k _ (Or.inl (by omega))]; exact z3 k j g1 g2 g3 g4
    · rw [bo 28 _ (Or.inl (by decide))]; exact (z4 j k g1 g2 g3).1
    · rw [bo 29 _ (Or.inl (by decide))]; exact (z4 j k g1 g2 g3).2