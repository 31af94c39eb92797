/-- the numbers of a subscription's kept messages rise; B bounds the last -/
def SN (p : PP) (a : IF) (s B : Nat) : Prop := ∃ (ln : Nat) (x : Nat → Nat), a (6, s, 0) 10 = nI ln ∧ ln ≤ B ∧ (∀ q, q < tn (a (6, s, 0) 9) → a (10, s, gP p s q) 3 = nI (x q) ∧ 1 ≤ x q ∧ x q ≤ ln) ∧ ∀ q r, q < r → r < tn (a (6, s, 0) 9) → x q < x r
theorem pig4 {f : Nat → Nat} {n : Nat} (h : ∀ k, k < 5 → f k < n) (hi : ∀ k l, k < 5 → l < 5 → f k = f l → k = l) : 5 ≤ n := by
  have d : ∀ k l, k < 5 → l < 5 → k ≠ l → f k ≠ f l := fun k l a b c e => c (hi k l a b e)
  have a0 := h 0 (by omega)
  have a1 := h 1 (by omega)
  have a2 := h 2 (by omega)
  have a3 := h 3 (by omega)
  have a4 := h 4 (by omega)
  have b01 := d 0 1 (by omega) (by omega) (by omega)
  have b02 := d 0 2 (by omega) (by omega) (by omega)
  have b03 := d 0 3 (by omega) (by omega) (by omega)
  have b04 := d 0 4 (by omega) (by omega) (by omega)
  have b12 := d 1 2 (by omega) (by omega) (by omega)
  have b13 := d 1 3 (by omega) (by omega) (by omega)
  have b14 := d 1 4 (by omega) (by omega) (by omega)
  have b23 := d 2 3 (by omega) (by omega) (by omega)
  have b24 := d 2 4 (by omega) (by omega) (by omega)
  have b34 := d 3 4 (by omega) (by omega) (by omega)
  omega
/-- the model's slots as numbers -/
theorem slots {p : PP} {a b : IF} {s B : Nat} (hB : B < 2 ^ 31) (hM : MM p a b s) (hN : SN p a s B) : ∃ (ln : Nat) (x y : Nat → Nat), a (6, s, 0) 10 = nI ln ∧ ln ≤ B ∧ (∀ q, q < tn (a (6, s, 0) 9) → a (10, s, gP p s q) 3 = nI (x q) ∧ 1 ≤ x q ∧ x q ≤ ln) ∧ (∀ q r, q < r → r < tn (a (6, s, 0) 9) → x q < x r) ∧ (∀ k, k < 5 → b (21, 30, 0) (5 * s + k) = nI (y k) ∧ y k ≤ ln) ∧ (∀ k, k < 5 → y k = 0 ∨ ∃ q, q < tn (a (6, s, 0) 9) ∧ y k = x q) ∧ (∀ k l, k < 5 → l < 5 → y k ≠ 0 → y k = y l → k = l) ∧
    (∀ q, q < tn (a (6, s, 0) 9) → ∃ k, k < 5 ∧ y k = x q ∧ b (21, 31, 0) (5 * s + k) = a (10, s, gP p s q) 4 ∧ MC a b s (gP p s q) k (tn (a (10, s, gP p s q) 4))) := by
  obtain ⟨ln, x, n1, n2, n3, n4⟩ := hN
  obtain ⟨m1, m2, m3⟩ := hM
  have hy : ∀ k, k < 5 → b (21, 30, 0) (5 * s + k) = nI (tn (b (21, 30, 0) (5 * s + k))) ∧ tn (b (21, 30, 0) (5 * s + k)) ≤ ln ∧ (tn (b (21, 30, 0) (5 * s + k)) = 0 ∨ ∃ q, q < tn (a (6, s, 0) 9) ∧ tn (b (21, 30, 0) (5 * s + k)) = x q) := by
    intro k hk
    rcases m2 k hk with e | ⟨q, q1, q2⟩
    · rw [e]; exact ⟨rfl, Nat.zero_le _, Or.inl rfl⟩
    · have := n3 q q1
      rw [q2, this.1, tn_nI (by omega)]
      exact ⟨rfl, this.2.2, Or.inr ⟨q, q1, rfl⟩⟩
  refine ⟨ln, x, fun k => tn (b (21, 30, 0) (5 * s + k)), n1, n2, n3, n4, fun k hk => ⟨(hy k hk).1, (hy k hk).2.1⟩, fun k hk => (hy k hk).2.2, fun k l hk hl h0 h1 => ?_, fun q hq => ?_⟩
  · refine m3 k l hk hl ?_ ?_
    · intro e; exact h0 (by show tn (b (21, 30, 0) (5 * s + k)) = 0; rw [e]; rfl)
    · have h1' : tn (b (21, 30, 0) (5 * s + k)) = tn (b (21, 30, 0) (5 * s + l)) := h1
      rw [(hy k hk).1, h1', ← (hy l hl).1]
  · obtain ⟨k, k1, k2, k3, k4⟩ := m1 q hq
    have := n3 q hq
    exact ⟨k, k1, by show tn (b (21, 30, 0) (5 * s + k)) = x q; rw [k2, this.1, tn_nI (by omega)], k3, k4⟩
/-- how a message's sending begins, in the model: the place, and the ties -/
theorem MXs_start {p p' : PP} {a a1 b : IF} {s o K at_ B : Nat} (hB : B < 2 ^ 30) (hW : WF p a) (hs : s < gS p) (hN : NX p a s p' a1 o K) (hSN : SN p a s B) (h1 : MG a b) (h2 : ∀ u, u < gS p → u ≠ s → MS a b u ∧ MM p a b u) (h3 : MSm a b s) (hm : MM p a b s) (h5 : ∀ i, i < gT p → MI p a b i) (h6 : MZ p b) (hat : at_ < 5) (hmin : ∀ y : Nat → Nat, (∀ k, k < 5 → b (21, 30, 0) (5 * s + k) = nI (y k) ∧ y k < 2 ^ 31) → ∀ l, l < 5 → y at_ ≤ y l) :
    MXs p' a1 (up (up b (21, 13, 0) s (a (6, s, 0) 10 + 1)) (21, 30, 0) (5 * s + at_) (a (6, s, 0) 10 + 1)) s at_ o K 0 := by
  obtain ⟨ln, x, y, n1, n2, n3, n4, y1, y2, y3, y4⟩ := slots (by omega) hm hSN
  have hmn := hmin y (fun k hk => ⟨(y1 k hk).1, by have := (y1 k hk).2; omega⟩)
  obtain ⟨⟨m, π, rfl⟩, x2, x3, x4, x5, x6, x7, x8, x9, x10, x11, x12, x13⟩ := hN
  have g3 := hm.2.2
  have hoff : ∀ q, q < K → q + (tn (a (6, s, 0) 9) - K) < tn (a (6, s, 0) 9) := by intro q hq; omega
  have fr : ∀ r k z j, (r < 6 ∨ r = 7 ∨ r = 8 ∨ r = 9 ∨ 13 < r) → a1 (r, k, z) j = a (r, k, z) j := fun r k z j g => x13 _ j (fun q => by have := q.1; simp only [Prod.mk.injEq] at this; omega) (fun q => by simp only at q; omega)
  have f6 : ∀ k j, k ≠ s ∨ (j ≠ 9 ∧ j ≠ 10) → a1 (6, k, 0) j = a (6, k, 0) j := fun k j g => x13 _ j (fun q => by have := q.1; simp only [Prod.mk.injEq] at this; omega) (fun q => by simp only at q; omega)
  have fm : ∀ r k z j, 10 ≤ r → ¬ (k = s ∧ z = o) → a1 (r, k, z) j = a (r, k, z) j := fun r k z j _ g => x13 _ j (fun q => by have := q.1; simp only [Prod.mk.injEq] at this; omega) (fun q => g (by have := q.2; simp only [Prod.mk.injEq] at this; exact this))
  have bl : ∀ k j, (k ≠ 13 ∨ j ≠ s) → (k ≠ 30 ∨ j ≠ 5 * s + at_) → up (up b (21, 13, 0) s (a (6, s, 0) 10 + 1)) (21, 30, 0) (5 * s + at_) (a (6, s, 0) 10 + 1) (21, k, 0) j = b (21, k, 0) j := by
    intro k j g1 g2
    rw [up_ne (fun q => by have := q.1; simp only [Prod.mk.injEq] at this; omega), up_ne (fun q => by have := q.1; simp only [Prod.mk.injEq] at this; omega)]
  have b20 : ∀ j, up (up b (21, 13, 0) s (a (6, s, 0) 10 + 1)) (21, 30, 0) (5 * s + at_) (a (6, s, 0) 10 + 1) (20, 0, 0) j = b (20, 0, 0) j := by
    intro j; rw [up_ne (by simp), up_ne (by simp)]
  have b30 : ∀ k, k ≠ at_ → up (up b (21, 13, 0) s (a (6, s, 0) 10 + 1)) (21, 30, 0) (5 * s + at_) (a (6, s, 0) 10 + 1) (21, 30, 0) (5 * s + k) = b (21, 30, 0) (5 * s + k) := fun k g => bl 30 _ (Or.inl (by decide)) (Or.inr (by omega))
  -- the place holds none of those that stay
  have hz : K = tn (a (6, s, 0) 9) → y at_ = 0 := by
    intro e
    cases Nat.eq_zero_or_pos (y at_) with
    | inl z => exact z
    | inr z =>
      exfalso
      have all : ∀ k, k < 5 → ∃ q, q < tn (a (6, s, 0) 9) ∧ y k = x q := by
        intro k hk
        rcases y2 k hk with w | w
        · have := hmn k hk; omega
        · exact w
      have hf : ∀ k, ∃ q, k < 5 → q < tn (a (6, s, 0) 9) ∧ y k = x q := by
        intro k
        by_cases hk : k < 5
        · obtain ⟨q, hq⟩ := all k hk; exact ⟨q, fun _ => hq⟩
        · exact ⟨0, fun w => absurd w hk⟩
      have := pig4 (f := fun k => (hf k).choose) (n := tn (a (6, s, 0) 9)) (fun k hk => ((hf k).choose_spec hk).1) (fun k l hk hl e2 => by
        have e3 : (hf k).choose = (hf l).choose := e2
        refine y3 k l hk hl ?_ ?_
        · have := hmn k hk; omega
        · rw [((hf k).choose_spec hk).2, ((hf l).choose_spec hl).2, e3])
      omega
  have h55 : K ≠ tn (a (6, s, 0) 9) → tn (a (6, s, 0) 9) = 5 ∧ K = 4 := by intro e; rcases x7 with w | w; exact absurd w.symm e; exact w
  have hk0 : ∀ q, q < K → y at_ ≠ x (q + (tn (a (6, s, 0) 9) - K)) := by
    intro q hq
    have := n3 _ (hoff q hq)
    by_cases e : K = tn (a (6, s, 0) 9)
    · have := hz e; omega
    · obtain ⟨e5, e4⟩ := h55 e
      obtain ⟨k, k1, k2, -⟩ := y4 0 (by omega)
      have g1 := hmn k k1
      have g2 := n4 0 (q + (tn (a (6, s, 0) 9) - K)) (by omega) (hoff q hq)
      omega
  have hst : ∀ k, k < 5 → k ≠ at_ → y k ≠ 0 → ∃ q, q < K ∧ y k = x (q + (tn (a (6, s, 0) 9) - K)) := by
    intro k hk hka h0
    rcases y2 k hk with w | ⟨q, w1, w2⟩
    · exact absurd w h0
    · by_cases e : K = tn (a (6, s, 0) 9)
      · exact ⟨q, by omega, by rw [e, Nat.sub_self]; exact w2⟩
      · obtain ⟨e5, e4⟩ := h55 e
        by_cases q0 : q = 0
        · exfalso
          subst q0
          -- the place has a number too, and so the least
          have ha : y at_ ≠ 0 := by
            intro z
            have hf : ∀ q, ∃ k, q < 5 → k < 5 ∧ y k = x q := by
              intro q
              by_cases hq : q < 5
              · obtain ⟨k, k1, k2, -⟩ := y4 q (by omega); exact ⟨k, fun _ => ⟨k1, k2⟩⟩
              · exact ⟨0, fun w => absurd w hq⟩
            have na : ∀ q, q < 5 → (hf q).choose ≠ at_ := by
              intro q hq e2
              have h1 := ((hf q).choose_spec hq).2
              have h2 := (n3 q (by omega)).2.1
              rw [e2] at h1; omega
            have inj : ∀ k l, k < 5 → l < 5 → (hf k).choose = (hf l).choose → k = l := by
              intro k l hk hl e2
              have h1 := ((hf k).choose_spec hk).2
              have h2 := ((hf l).choose_spec hl).2
              rw [e2, h2] at h1
              rcases Nat.lt_trichotomy k l with w | w | w
              · have := n4 k l w (by omega); omega
              · exact w
              · have := n4 l k w (by omega); omega
            have := pig4 (f := fun q => if (hf q).choose < at_ then (hf q).choose else (hf q).choose - 1) (n := 4) (fun k hk => by
              have h1 := ((hf k).choose_spec hk).1
              have h2 := na k hk
              show (if (hf k).choose < at_ then (hf k).choose else (hf k).choose - 1) < 4
              split <;> omega) (fun k l hk hl e2 => by
              have h1 := na k hk
              have h2 := na l hl
              have e3 : (if (hf k).choose < at_ then (hf k).choose else (hf k).choose - 1) = (if (hf l).choose < at_ then (hf l).choose else (hf l).choose - 1) := e2
              refine inj k l hk hl ?_
              split at e3 <;> split at e3 <;> omega)
            omega
          rcases y2 at_ hat with v | ⟨r, v1, v2⟩
          · exact ha v
          · by_cases r0 : r = 0
            · subst r0
              exact hka (y3 k at_ hk hat h0 (by rw [w2, v2]))
            · have := n4 0 r (by omega) v1
              have := hmn k hk
              omega
        · exact ⟨q - 1, by omega, by rw [show q - 1 + (tn (a (6, s, 0) 9) - K) = q by omega]; exact w2⟩
  refine ⟨?_, fun u hu hus => ⟨?_, ?_⟩, ?_, ⟨fun q hq => ?_, fun k hk hka => ?_, ?_, x12, fun m hm => by omega, fun k l k1 k2 k3 k4 => ?_⟩, fun i hi => ?_, ?_⟩
  · unfold MG at *
    simp only [b20, bl 2 _ (Or.inl (by decide)) (Or.inl (by decide)), fr 0 _ _ _ (Or.inl (by omega)), fr 1 _ _ _ (Or.inl (by omega))]
    exact h1
  · have g := (h2 u hu hus).1
    unfold MS at *
    simp only [bl 4 _ (Or.inl (by decide)) (Or.inl (by decide)), bl 6 _ (Or.inl (by decide)) (Or.inl (by decide)), bl 7 _ (Or.inl (by decide)) (Or.inl (by decide)), bl 8 _ (Or.inl (by decide)) (Or.inl (by decide)), bl 9 _ (Or.inl (by decide)) (Or.inl (by decide)), bl 10 _ (Or.inl (by decide)) (Or.inl (by decide)), bl 11 _ (Or.inl (by decide)) (Or.inl (by decide)), bl 12 _ (Or.inl (by decide)) (Or.inl (by decide)), bl 13 _ (Or.inr hus) (Or.inl (by decide)), bl 14 _ (Or.inl (by decide)) (Or.inl (by decide)), f6 u _ (Or.inl hus), fr 7 _ _ _ (Or.inr (Or.inl rfl))]
    exact g
  · have g := (h2 u hu hus).2
    unfold MM at *
    have bu : ∀ k, k < 5 → up (up b (21, 13, 0) s (a (6, s, 0) 10 + 1)) (21, 30, 0) (5 * s + at_) (a (6, s, 0) 10 + 1) (21, 30, 0) (5 * u + k) = b (21, 30, 0) (5 * u + k) := fun k hk => bl 30 _ (Or.inl (by decide)) (Or.inr (by omega))
    rw [gP_n hus]
    have fu : ∀ r z j, 10 ≤ r → a1 (r, u, z) j = a (r, u, z) j := fun r z j w => fm r u z j w (fun q => hus q.1)
    simp only [f6 u _ (Or.inl hus), fu 10 _ _ (by omega), fu 11 _ _ (by omega), fu 12 _ _ (by omega), fu 13 _ _ (by omega), bl 31 _ (Or.inl (by decide)) (Or.inl (by decide)), bl 32 _ (Or.inl (by decide)) (Or.inl (by decide)), bl 33 _ (Or.inl (by decide)) (Or.inl (by decide)), bl 34 _ (Or.inl (by decide)) (Or.inl (by decide))]
    refine ⟨fun q hq => ?_, fun k hk => ?_, fun k l hk hl => ?_⟩
    · obtain ⟨k, w1, w2⟩ := g.1 q hq
      exact ⟨k, w1, by rw [bu k w1]; exact w2⟩
    · rw [bu k hk]; exact g.2.1 k hk
    · rw [bu k hk, bu l hl]; exact g.2.2 k l hk hl
  · unfold MSm at *
    simp only [bl 4 _ (Or.inl (by decide)) (Or.inl (by decide)), bl 6 _ (Or.inl (by decide)) (Or.inl (by decide)), bl 7 _ (Or.inl (by decide)) (Or.inl (by decide)), bl 8 _ (Or.inl (by decide)) (Or.inl (by decide)), bl 9 _ (Or.inl (by decide)) (Or.inl (by decide)), bl 10 _ (Or.inl (by decide)) (Or.inl (by decide)), bl 11 _ (Or.inl (by decide)) (Or.inl (by decide)), bl 12 _ (Or.inl (by decide)) (Or.inl (by decide)), bl 14 _ (Or.inl (by decide)) (Or.inl (by decide)), fr 7 _ _ _ (Or.inr (Or.inl rfl)), f6 s 7 (Or.inr (by decide)), f6 s 1 (Or.inr (by decide)), f6 s 2 (Or.inr (by decide)), f6 s 3 (Or.inr (by decide)), f6 s 4 (Or.inr (by decide)), f6 s 11 (Or.inr (by decide)), x10]
    exact ⟨h3.1, h3.2.1, h3.2.2.1, h3.2.2.2.1, h3.2.2.2.2.1, h3.2.2.2.2.2.1, by rw [up_ne (by simp), up_same], h3.2.2.2.2.2.2.2⟩
  · obtain ⟨w1, w2⟩ := x8 q hq
    obtain ⟨k, k1, k2, k3, k4⟩ := y4 _ (hoff q hq)
    have hka : k ≠ at_ := by
      intro e; subst e; exact hk0 q hq k2
    have fo : ∀ r j, 10 ≤ r → a1 (r, s, gP (setM p s m π) s q) j = a (r, s, gP p s (q + (tn (a (6, s, 0) 9) - K))) j := by
      intro r j w; rw [fm r s _ j w (fun z => w2 z.2), w1]
    refine ⟨k, k1, hka, ?_, ?_, ?_⟩
    · rw [b30 k hka, fo 10 _ (by omega), (y1 k k1).1, k2, (n3 _ (hoff q hq)).1]
    · rw [bl 31 _ (Or.inl (by decide)) (Or.inl (by decide)), fo 10 _ (by omega)]; exact k3
    · rw [fo 10 _ (by omega)]
      unfold MC at *
      simp only [fo 11 _ (by omega), fo 12 _ (by omega), fo 13 _ (by omega), bl 32 _ (Or.inl (by decide)) (Or.inl (by decide)), bl 33 _ (Or.inl (by decide)) (Or.inl (by decide)), bl 34 _ (Or.inl (by decide)) (Or.inl (by decide))]
      exact k4
  · rw [b30 k hka, (y1 k hk).1]
    by_cases h0 : y k = 0
    · rw [h0]; exact Or.inl rfl
    · obtain ⟨q, q1, q2⟩ := hst k hk hka h0
      obtain ⟨w1, w2⟩ := x8 q q1
      refine Or.inr ⟨q, q1, ?_⟩
      rw [fm 10 s _ 3 (by omega) (fun z => w2 z.2), w1, (n3 _ (hoff q q1)).1, q2]
  · rw [up_same, x11]
  · rw [b30 k k3, b30 l k4]; exact g3 k l k1 k2
  · have g := h5 i hi
    have hlt : ∀ k, 14 ≤ k → k ≤ 29 → ∀ j, up (up b (21, 13, 0) s (a (6, s, 0) 10 + 1)) (21, 30, 0) (5 * s + at_) (a (6, s, 0) 10 + 1) (21, k, 0) j = b (21, k, 0) j := fun k g1 g2 j => bl k j (Or.inl (by omega)) (Or.inl (by omega))
    unfold MI at *
    simp only [fr 14 _ _ _ (Or.inr (Or.inr (Or.inr (Or.inr (by omega))))), fr 15 _ _ _ (Or.inr (Or.inr (Or.inr (Or.inr (by omega))))), fr 16 _ _ _ (Or.inr (Or.inr (Or.inr (Or.inr (by omega))))), fr 17 _ _ _ (Or.inr (Or.inr (Or.inr (Or.inr (by omega))))), fr 18 _ _ _ (Or.inr (Or.inr (Or.inr (Or.inr (by omega))))), hlt 16 (by omega) (by omega), hlt 17 (by omega) (by omega), hlt 18 (by omega) (by omega), hlt 19 (by omega) (by omega), hlt 20 (by omega) (by omega), hlt 21 (by omega) (by omega), hlt 22 (by omega) (by omega), hlt 23 (by omega) (by omega), hlt 24 (by omega) (by omega), hlt 25 (by omega) (by omega), hlt 26 (by omega) (by omega), hlt 27 (by omega) (by omega), hlt 28 (by omega) (by omega), hlt 29 (by omega) (by omega)]
    exact g
  · obtain ⟨z1, z2, z3, z4⟩ := h6
    refine ⟨fun k u g1 g2 g3 g4 => ?_, fun u k g1 g2 g3 => ?_, fun k j g1 g2 g3 g4 => ?_, fun j k g1 g2 g3 => ⟨?_, ?_⟩⟩
    · have g3' : gS p ≤ u := g3
      rw [bl k _ (Or.inr (by omega)) (Or.inl (by omega))]; exact z1 k u g1 g2 g3 g4
    · have g1' : gS p ≤ u := g1
      rw [bl 30 _ (Or.inl (by decide)) (Or.inr (by omega))]; exact z2 u k g1 g2 g3
    · rw [bl k _ (Or.inl (by omega)) (Or.inl (by omega))]; exact z3 k j g1 g2 g3 g4
    · rw [bl 28 _ (Or.inl (by decide)) (Or.inl (by decide))]; exact (z4 j k g1 g2 g3).1
    · rw [bl 29 _ (Or.inl (by decide)) (Or.inl (by decide))]; exact (z4 j k g1 g2 g3).2
