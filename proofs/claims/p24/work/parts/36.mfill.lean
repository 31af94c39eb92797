/-! The model fills a message: what ties the halves in between. -/
def MSm (a b : IF) (s : Nat) : Prop := b (21, 4, 0) s = a (6, s, 0) 7 ∧ b (21, 6, 0) s = a (7, s, 0) 0 ∧ b (21, 7, 0) s = a (6, s, 0) 1 ∧ b (21, 8, 0) s = a (6, s, 0) 2 ∧ b (21, 9, 0) s = a (6, s, 0) 3 ∧ b (21, 10, 0) s = a (6, s, 0) 4 ∧ b (21, 13, 0) s = a (6, s, 0) 10 ∧ b (21, 14, 0) s = a (6, s, 0) 11 ∧ b (21, 11, 0) s = 0 ∧ b (21, 12, 0) s = 0
/-- one message lies in one place of the model -/
def MC (a b : IF) (s o k n : Nat) : Prop := ∀ m, m < n → b (21, 32, 0) (10 * (5 * s + k) + m) = a (11, s, o) m ∧ b (21, 33, 0) (10 * (5 * s + k) + m) = a (12, s, o) m ∧ b (21, 34, 0) (10 * (5 * s + k) + m) = a (13, s, o) m
def MP (p : PP) (a b : IF) (s at_ o K n : Nat) : Prop :=
  (∀ q, q < K → ∃ k, k < 5 ∧ k ≠ at_ ∧ b (21, 30, 0) (5 * s + k) = a (10, s, gP p s q) 3 ∧ b (21, 31, 0) (5 * s + k) = a (10, s, gP p s q) 4 ∧ MC a b s (gP p s q) k (tn (a (10, s, gP p s q) 4))) ∧
  (∀ k, k < 5 → k ≠ at_ → b (21, 30, 0) (5 * s + k) = 0 ∨ ∃ q, q < K ∧ b (21, 30, 0) (5 * s + k) = a (10, s, gP p s q) 3) ∧ b (21, 30, 0) (5 * s + at_) = a (10, s, o) 3 ∧ a (10, s, o) 4 = nI n ∧ MC a b s o at_ n ∧
  ∀ k l, k < 5 → l < 5 → k ≠ at_ → l ≠ at_ → b (21, 30, 0) (5 * s + k) ≠ 0 → b (21, 30, 0) (5 * s + k) = b (21, 30, 0) (5 * s + l) → k = l
def MXs (p : PP) (a b : IF) (s at_ o K n : Nat) : Prop := MG a b ∧ (∀ u, u < gS p → u ≠ s → MS a b u ∧ MM p a b u) ∧ MSm a b s ∧ MP p a b s at_ o K n ∧ (∀ i, i < gT p → MI p a b i) ∧ MZ p b
def gvR (a b : IF) (i s o at_ n : Nat) : IF :=
  setR (up (up (up b (21, 32, 0) (10 * (5 * s + at_) + n) (a (17, i, 0) 0)) (21, 33, 0) (10 * (5 * s + at_) + n) (nI i)) (21, 34, 0) (10 * (5 * s + at_) + n) (a (18, i, 0) 0)) i (tn (a (16, i, 0) 4) - 1) (sh (fun k => a (17, i, 0) k) (tn (a (16, i, 0) 4))) (sh (fun k => a (18, i, 0) k) (tn (a (16, i, 0) 4)))
theorem gvR_o {a b : IF} {i s o at_ n : Nat} {N : Nm} {j : Nat} (h1 : N ≠ (21, 27, 0) ∨ j ≠ i) (h2 : (N ≠ (21, 28, 0) ∧ N ≠ (21, 29, 0)) ∨ ¬ (4 * i ≤ j ∧ j < 4 * i + 4)) (h3 : (N ≠ (21, 32, 0) ∧ N ≠ (21, 33, 0) ∧ N ≠ (21, 34, 0)) ∨ j ≠ 10 * (5 * s + at_) + n) : gvR a b i s o at_ n N j = b N j := by
  rw [gvR, setR_o (fun q => h1.elim (fun z => z q.1) (fun z => z q.2)) (fun q => h2.elim (fun z => z.1 q.1) (fun z => z q.2)) (fun q => h2.elim (fun z => z.2 q.1) (fun z => z q.2)), up_ne (fun q => h3.elim (fun z => z.2.2 q.1) (fun z => z q.2)), up_ne (fun q => h3.elim (fun z => z.2.1 q.1) (fun z => z q.2)), up_ne (fun q => h3.elim (fun z => z.1 q.1) (fun z => z q.2))]
theorem n21 {k k' : Nat} (h : k ≠ k') : ((21, k, 0) : Nm) ≠ (21, k', 0) := nm_ne (Or.inr h)
theorem MXs_gv {p : PP} {a b : IF} {i s o at_ K n c : Nat} (hW : WF p a) (h : MXs p a b s at_ o K n) (hi : i < gT p) (hs : s < gS p) (hat : at_ < 5) (hn : n < 10) (hc : a (16, i, 0) 4 = nI c) (c1 : 1 ≤ c) (c4 : c ≤ 4) (hK : K ≤ gM p s) (hP : ∀ q, q < K → gP p s q ≠ o) : MXs p (gv1 a i s o) (gvR a b i s o at_ n) s at_ o K (n + 1) := by
  obtain ⟨h1, h2, h3, h4, h5, h6⟩ := h
  have t16 : tn (a (16, i, 0) 4) = c := by rw [hc, tn_nI (by omega)]
  have t10 : tn (a (10, s, o) 4) = n := by rw [h4.2.2.2.1, tn_nI (by omega)]
  have al : ∀ r k z j, r < 10 ∨ 13 < r ∧ r < 16 → gv1 a i s o (r, k, z) j = a (r, k, z) j := fun r k z j q => gv1_o ⟨fun y => by simp only at y; omega, fun y => by simp only at y; omega⟩
  have am : ∀ r k z j, r ≤ 13 → ¬ (k = s ∧ z = o) → gv1 a i s o (r, k, z) j = a (r, k, z) j := fun r k z j q y => gv1_o ⟨fun w => y (by have := w.2; simp only [Prod.mk.injEq] at this; exact this), fun w => by simp only at w; omega⟩
  have b20 : ∀ j, gvR a b i s o at_ n (20, 0, 0) j = b (20, 0, 0) j := fun j => gvR_o (Or.inl (nm_ne (Or.inl (by decide)))) (Or.inl ⟨nm_ne (Or.inl (by decide)), nm_ne (Or.inl (by decide))⟩) (Or.inl ⟨nm_ne (Or.inl (by decide)), nm_ne (Or.inl (by decide)), nm_ne (Or.inl (by decide))⟩)
  have bl : ∀ k j, k < 27 ∨ k = 30 ∨ k = 31 → gvR a b i s o at_ n (21, k, 0) j = b (21, k, 0) j := fun k j g => gvR_o (Or.inl (n21 (by omega))) (Or.inl ⟨n21 (by omega), n21 (by omega)⟩) (Or.inl ⟨n21 (by omega), n21 (by omega), n21 (by omega)⟩)
  have bc : ∀ k j, k = 32 ∨ k = 33 ∨ k = 34 → j ≠ 10 * (5 * s + at_) + n → gvR a b i s o at_ n (21, k, 0) j = b (21, k, 0) j := fun k j g w => gvR_o (Or.inl (n21 (by omega))) (Or.inl ⟨n21 (by omega), n21 (by omega)⟩) (Or.inr w)
  have b27 : ∀ j, j ≠ i → gvR a b i s o at_ n (21, 27, 0) j = b (21, 27, 0) j := fun j w => gvR_o (Or.inr w) (Or.inl ⟨n21 (by omega), n21 (by omega)⟩) (Or.inl ⟨n21 (by omega), n21 (by omega), n21 (by omega)⟩)
  have b28 : ∀ k j, k = 28 ∨ k = 29 → ¬ (4 * i ≤ j ∧ j < 4 * i + 4) → gvR a b i s o at_ n (21, k, 0) j = b (21, k, 0) j := fun k j g w => gvR_o (Or.inl (n21 (by omega))) (Or.inr w) (Or.inl ⟨n21 (by omega), n21 (by omega), n21 (by omega)⟩)
  refine ⟨?_, fun u hu hus => ⟨?_, ?_⟩, ?_, ⟨fun q hq => ?_, fun k hk hka => ?_, ?_, ?_, fun m hm => ?_, fun k l k1 k2 k3 k4 => ?_⟩, fun k hk => ?_, ?_⟩
  · unfold MG at *
    simp only [b20, bl 2 _ (by omega), al 0 _ _ _ (by omega), al 1 _ _ _ (by omega)]
    exact h1
  · have g := (h2 u hu hus).1
    unfold MS at *
    simp only [bl 4 _ (by omega), bl 6 _ (by omega), bl 7 _ (by omega), bl 8 _ (by omega), bl 9 _ (by omega), bl 10 _ (by omega), bl 11 _ (by omega), bl 12 _ (by omega), bl 13 _ (by omega), bl 14 _ (by omega), al 6 _ _ _ (by omega), al 7 _ _ _ (by omega)]
    exact g
  · have g := (h2 u hu hus).2
    obtain ⟨g1, g2, g3, g4, g5, g6, g7, g8, g9, -⟩ := hW.2.2 u hu
    obtain ⟨-, -, hk9⟩ := bn_tn g6 (by omega)
    have au : ∀ r z j, r ≤ 13 → gv1 a i s o (r, u, z) j = a (r, u, z) j := fun r z j q => am r u z j q (fun y => hus y.1)
    refine ⟨fun q hq => ?_, fun k hk => ?_, fun k l k1 k2 => ?_⟩
    · rw [al 6 _ _ _ (by omega)] at hq
      obtain ⟨k, q1, q2, q3, q4⟩ := g.1 q hq
      refine ⟨k, q1, ?_, ?_, fun m hm => ?_⟩
      · rw [bl 30 _ (by omega), au 10 _ _ (by omega)]; exact q2
      · rw [bl 31 _ (by omega), au 10 _ _ (by omega)]; exact q3
      · rw [au 10 _ _ (by omega)] at hm
        obtain ⟨-, -, hm10⟩ := bn_tn (g9 _ (g8 q (by omega))) (by decide)
        rw [bc 32 _ (by omega) (by omega), bc 33 _ (by omega) (by omega), bc 34 _ (by omega) (by omega), au 11 _ _ (by omega), au 12 _ _ (by omega), au 13 _ _ (by omega)]
        exact q4 m hm
    · rw [bl 30 _ (by omega)]
      rcases g.2.1 k hk with w | ⟨q, w1, w2⟩
      · exact Or.inl w
      · refine Or.inr ⟨q, by rw [al 6 _ _ _ (by omega)]; exact w1, by rw [au 10 _ _ (by omega)]; exact w2⟩
    · rw [bl 30 _ (by omega), bl 30 _ (by omega)]; exact g.2.2 k l k1 k2
  · unfold MSm at *
    simp only [bl 4 _ (by omega), bl 6 _ (by omega), bl 7 _ (by omega), bl 8 _ (by omega), bl 9 _ (by omega), bl 10 _ (by omega), bl 11 _ (by omega), bl 12 _ (by omega), bl 13 _ (by omega), bl 14 _ (by omega), al 6 _ _ _ (by omega), al 7 _ _ _ (by omega)]
    exact h3
  · have ao : ∀ r j, r ≤ 13 → gv1 a i s o (r, s, gP p s q) j = a (r, s, gP p s q) j := fun r j w => am r s _ j w (fun y => hP q hq y.2)
    obtain ⟨k, q1, q2, q3, q4, q5⟩ := h4.1 q hq
    obtain ⟨g1, g2, g3, g4, g5, g6, g7, g8, g9, -⟩ := hW.2.2 s hs
    refine ⟨k, q1, q2, ?_, ?_, fun m hm => ?_⟩
    · rw [bl 30 _ (by omega), ao 10 _ (by omega)]; exact q3
    · rw [bl 31 _ (by omega), ao 10 _ (by omega)]; exact q4
    · rw [ao 10 _ (by omega)] at hm
      obtain ⟨-, -, hm10⟩ := bn_tn (g9 _ (g8 q (by omega))) (by decide)
      rw [bc 32 _ (by omega) (by omega), bc 33 _ (by omega) (by omega), bc 34 _ (by omega) (by omega), ao 11 _ (by omega), ao 12 _ (by omega), ao 13 _ (by omega)]
      exact q5 m hm
  · rw [bl 30 _ (by omega)]
    rcases h4.2.1 k hk hka with w | ⟨q, w1, w2⟩
    · exact Or.inl w
    · exact Or.inr ⟨q, w1, by rw [am 10 s _ _ (by omega) (fun y => hP q w1 y.2)]; exact w2⟩
  · rw [bl 30 _ (by omega), gv1_10j (by decide)]; exact h4.2.2.1
  · rw [gv1_10, t10]
  · rw [gv1_11, gv1_12, gv1_13, t10]
    by_cases e : m = n
    · subst e
      rw [if_pos rfl, if_pos rfl, if_pos rfl]
      refine ⟨?_, ?_, ?_⟩
      · rw [gvR, setR_on (by simp) (by simp) (by simp), up_ne (by simp), up_ne (by simp), up_same]
      · rw [gvR, setR_on (by simp) (by simp) (by simp), up_ne (by simp), up_same]
      · rw [gvR, setR_on (by simp) (by simp) (by simp), up_same]
    · rw [if_neg e, if_neg e, if_neg e, bc 32 _ (by omega) (by omega), bc 33 _ (by omega) (by omega), bc 34 _ (by omega) (by omega)]
      exact h4.2.2.2.2.1 m (by omega)
  · rw [bl 30 _ (by omega), bl 30 _ (by omega)]; exact h4.2.2.2.2.2 k l k1 k2 k3 k4
  · by_cases e : k = i
    · subst e
      obtain ⟨g1, g2, g3, g4, g5, g6, g7, g8, g9, g10, g11, g12, g13, g14⟩ := h5 k hk
      refine ⟨?_, ?_, ?_, ?_, ?_, ?_, ?_, ?_, ?_, ?_, ?_, ?_, fun q hq => ?_, fun q hq => ?_⟩
      · rw [bl 16 _ (by omega)]; exact g1
      · rw [bl 17 _ (by omega), al 14 _ _ _ (by omega)]; exact g2
      · rw [bl 18 _ (by omega), al 14 _ _ _ (by omega)]; exact g3
      · rw [bl 19 _ (by omega), al 15 _ _ _ (by omega)]; exact g4
      · rw [bl 20 _ (by omega), gv1_160 (by decide)]; exact g5
      · rw [bl 21 _ (by omega), gv1_160 (by decide)]; exact g6
      · rw [bl 22 _ (by omega), al 14 _ _ _ (by omega)]; exact g7
      · rw [bl 23 _ (by omega), al 14 _ _ _ (by omega)]; exact g8
      · rw [bl 24 _ (by omega), al 14 _ _ _ (by omega)]; exact g9
      · rw [bl 25 _ (by omega), al 14 _ _ _ (by omega)]; exact g10
      · rw [bl 26 _ (by omega), al 14 _ _ _ (by omega)]; exact g11
      · rw [gvR, setR_c, gv1_16]
      · rw [gvR, setR_v hq, gv1_17]
      · rw [gvR, setR_m hq, gv1_18]
    · have g := h5 k hk
      have ak : ∀ r j, 14 ≤ r → gv1 a i s o (r, k, 0) j = a (r, k, 0) j := fun r j w => gv1_o ⟨fun y => by simp only at y; omega, fun y => by have := y.2; simp only [Prod.mk.injEq] at this; exact e this.1⟩
      unfold MI at *
      simp only [ak 14 _ (by omega), ak 15 _ (by omega), ak 16 _ (by omega), ak 17 _ (by omega), ak 18 _ (by omega), bl 16 _ (by omega), bl 17 _ (by omega), bl 18 _ (by omega), bl 19 _ (by omega), bl 20 _ (by omega), bl 21 _ (by omega), bl 22 _ (by omega), bl 23 _ (by omega), bl 24 _ (by omega), bl 25 _ (by omega), bl 26 _ (by omega), b27 k e]
      obtain ⟨g1, g2, g3, g4, g5, g6, g7, g8, g9, g10, g11, g12, g13, g14⟩ := g
      refine ⟨g1, g2, g3, g4, g5, g6, g7, g8, g9, g10, g11, g12, fun q hq => ?_, fun q hq => ?_⟩
      · rw [b28 28 _ (by omega) (by omega)]; exact g13 q hq
      · rw [b28 29 _ (by omega) (by omega)]; exact g14 q hq
  · obtain ⟨z1, z2, z3, z4⟩ := h6
    refine ⟨fun k s g1 g2 g3 g4 => ?_, fun s k g1 g2 g3 => ?_, fun k j g1 g2 g3 g4 => ?_, fun j k g1 g2 g3 => ⟨?_, ?_⟩⟩
    · rw [bl k _ (by omega)]; exact z1 k s g1 g2 g3 g4
    · rw [bl 30 _ (by omega)]; exact z2 s k g1 g2 g3
    · by_cases e : k < 27
      · rw [bl k _ (by omega)]; exact z3 k j g1 g2 g3 g4
      · have : k = 27 := by omega
        subst this
        rw [b27 _ (by omega)]; exact z3 27 j g1 g2 g3 g4
    · rw [b28 28 _ (by omega) (by omega)]; exact (z4 j k g1 g2 g3).1
    · rw [b28 29 _ (by omega) (by omega)]; exact (z4 j k g1 g2 g3).2
theorem FR_gvR {a b : IF} {i s o at_ n : Nat} : FR b (gvR a b i s o at_ n) := by
  intro N j q
  obtain ⟨r, k, z⟩ := N
  simp only at q
  exact gvR_o (Or.inl (nm_ne (by omega))) (Or.inl ⟨nm_ne (by omega), nm_ne (by omega)⟩) (Or.inl ⟨nm_ne (by omega), nm_ne (by omega), nm_ne (by omega)⟩)
