/-! open: the class. -/
def wS (p : PP) (O : Nat → Nat) : PP := (gS p + 1, gT p, fun x => if x = gS p then 0 else gM p x, O, gW p, gP p)
theorem itf_no {own : Nat → Nat} {s n j : Nat} (h : ∀ i, i < n → own i ≠ s) : itf own s n j = none := by
  induction n with
  | zero => rfl
  | succ n ih => rw [itf, if_neg (fun q => h n (by omega) q.1)]; exact ih (fun i hi => h i (by omega))
theorem cnt_no {own : Nat → Nat} {s n : Nat} (h : ∀ i, i < n → own i ≠ s) : cnt own s n = 0 := by
  induction n with
  | zero => rfl
  | succ n ih => rw [cnt, if_neg (h n (by omega))]; exact ih (fun i hi => h i (by omega))
theorem wS_k1 {s k z : Nat} {c : Nat} : (if k < s + 1 ∧ z = 0 then c else 0) = (if k = s ∧ z = 0 then c else if k < s ∧ z = 0 then c else 0) := by
  by_cases e : z = 0
  · by_cases g : k = s
    · subst g; simp [e]
    · have : k < s + 1 ↔ k < s := by omega
      simp [e, g, this]
  · simp [e]
theorem wS_k2 {α : Type} {s k z : Nat} {M : Nat → Nat} {c d : α} : (if k < s + 1 ∧ z < (if k = s then 0 else M k) then c else d) = (if k < s ∧ z < M k then c else d) := by
  by_cases g : k = s
  · subst g; simp
  · have : k < s + 1 ↔ k < s := by omega
    simp [g, this]
theorem Kf_ws {p : PP} {O : Nat → Nat} : Kf (wS p O) = fun a => if a = (7, gS p, 0) then 6 else if a = (9, gS p, 0) then 12 else if a = (8, gS p, 0) then 11 else if a = (6, gS p, 0) then 5 else Kf p a := by
  funext a
  obtain ⟨r, k, z⟩ := a
  by_cases h6 : r = 6
  · subst h6
    show (if k < gS p + 1 ∧ z = 0 then 5 else 0) = _
    rw [wS_k1]; simp only [Prod.mk.injEq]; simp; rfl
  by_cases h7 : r = 7
  · subst h7
    show (if k < gS p + 1 ∧ z = 0 then 6 else 0) = _
    rw [wS_k1]; simp only [Prod.mk.injEq]; simp; rfl
  by_cases h8 : r = 8
  · subst h8
    show (if k < gS p + 1 ∧ z = 0 then 11 else 0) = _
    rw [wS_k1]; simp only [Prod.mk.injEq]; simp; rfl
  by_cases h9 : r = 9
  · subst h9
    show (if k < gS p + 1 ∧ z = 0 then 12 else 0) = _
    rw [wS_k1]; simp only [Prod.mk.injEq]; simp; rfl
  simp only [Prod.mk.injEq, h6, h7, h8, h9, false_and, if_false]
  by_cases h10 : r = 10
  · subst h10; exact wS_k2
  by_cases h11 : r = 11
  · subst h11; exact wS_k2
  by_cases h12 : r = 12
  · subst h12; exact wS_k2
  by_cases h13 : r = 13
  · subst h13; exact wS_k2
  unfold Kf
  split <;> first | rfl | exact absurd (by assumption) h6 | exact absurd (by assumption) h7 | exact absurd (by assumption) h8 | exact absurd (by assumption) h9 | exact absurd (by assumption) h10 | exact absurd (by assumption) h11 | exact absurd (by assumption) h12 | exact absurd (by assumption) h13
theorem Lf_ws {p : PP} {O : Nat → Nat} : Lf (wS p O) = fun a => if a = (7, gS p, 0) then 0 else if a = (9, gS p, 0) then 5 else if a = (8, gS p, 0) then 16 else if a = (6, gS p, 0) then 0 else Lf p a := by
  funext a
  obtain ⟨r, k, z⟩ := a
  by_cases h6 : r = 6
  · subst h6
    simp only [Prod.mk.injEq]; simp
    show (0 : Nat) = if k = gS p ∧ z = 0 then 0 else 0
    simp
  by_cases h7 : r = 7
  · subst h7
    simp only [Prod.mk.injEq]; simp
    show (0 : Nat) = if k = gS p ∧ z = 0 then 0 else 0
    simp
  by_cases h8 : r = 8
  · subst h8
    show (if k < gS p + 1 ∧ z = 0 then 16 else 0) = _
    rw [wS_k1]; simp only [Prod.mk.injEq]; simp; rfl
  by_cases h9 : r = 9
  · subst h9
    show (if k < gS p + 1 ∧ z = 0 then 5 else 0) = _
    rw [wS_k1]; simp only [Prod.mk.injEq]; simp; rfl
  simp only [Prod.mk.injEq, h6, h7, h8, h9, false_and, if_false]
  by_cases h11 : r = 11
  · subst h11; exact wS_k2
  by_cases h12 : r = 12
  · subst h12; exact wS_k2
  by_cases h13 : r = 13
  · subst h13; exact wS_k2
  unfold Lf
  split <;> first | rfl | exact absurd (by assumption) h8 | exact absurd (by assumption) h9 | exact absurd (by assumption) h11 | exact absurd (by assumption) h12 | exact absurd (by assumption) h13
theorem Rf_ws {p : PP} {O : Nat → Nat} {x : Nat} (hx : x ≤ gS p) (hO : ∀ b, O b = if b < x then gO p b else if b = x then gS p else gO p (b - 1)) (hw : ∀ i, i < gT p → gW p i ≠ gS p) : Rf (wS p O) = fun a b => if a = (2, 1, 0) ∧ b = x then some ((6, gS p, 0) : Nm) else if a = (2, 1, 0) ∧ x < b ∧ b ≤ gS p then some (6, gO p (b - 1), 0) else if a = (2, 0, 0) ∧ b = gS p then some (6, gS p, 0) else if a = (6, gS p, 0) ∧ b = 0 then some (7, gS p, 0) else if a = (7, gS p, 0) then none else if a = (6, gS p, 0) ∧ b = 6 then some (9, gS p, 0) else if a = (9, gS p, 0) then none else if a = (6, gS p, 0) ∧ b = 5 then some (8, gS p, 0) else if a = (8, gS p, 0) then none else if a = (6, gS p, 0) then none else Rf p a b := by
  funext a b
  obtain ⟨r, k, z⟩ := a
  by_cases h2 : r = 2
  · subst h2
    simp only [Prod.mk.injEq]
    simp
    show (if z = 0 ∧ b < gS p + 1 then (if k = 0 then some ((6, b, 0) : Nm) else if k = 1 then some (6, O b, 0) else none) else none) = (if (k = 1 ∧ z = 0) ∧ b = x then some ((6, gS p, 0) : Nm) else if (k = 1 ∧ z = 0) ∧ x < b ∧ b ≤ gS p then some (6, gO p (b - 1), 0) else if (k = 0 ∧ z = 0) ∧ b = gS p then some (6, gS p, 0) else if z = 0 ∧ b < gS p then (if k = 0 then some ((6, b, 0) : Nm) else if k = 1 then some (6, gO p b, 0) else none) else none)
    by_cases e : z = 0
    · subst e
      by_cases k0 : k = 0
      · subst k0
        by_cases g : b = gS p
        · subst g; simp
        · have : b < gS p + 1 ↔ b < gS p := by omega
          simp [g, this]
      · by_cases k1 : k = 1
        · subst k1
          rw [hO b]
          by_cases g1 : b < x
          · have g2 : b < gS p + 1 := by omega
            have g3 : b < gS p := by omega
            have g4 : ¬ b = x := by omega
            have g5 : ¬ x < b := by omega
            simp [g1, g2, g3, g4, g5]
          · by_cases g2 : b = x
            · subst g2
              have g3 : b < gS p + 1 := by omega
              simp [g3]
            · have g5 : x < b := by omega
              by_cases g6 : b ≤ gS p
              · have g3 : b < gS p + 1 := by omega
                simp [g1, g2, g3, g5, g6]
              · have g3 : ¬ b < gS p + 1 := by omega
                have g7 : ¬ b < gS p := by omega
                simp [g2, g3, g6, g7]
        · simp [k0, k1]
    · simp [e]
  by_cases h6 : r = 6
  · subst h6
    simp only [Prod.mk.injEq]
    simp
    show (if k < gS p + 1 ∧ z = 0 then (if b = 0 then some ((7, k, 0) : Nm) else if b = 5 then some (8, k, 0) else if b = 6 then some (9, k, 0) else none) else none) = (if (k = gS p ∧ z = 0) ∧ b = 0 then some ((7, gS p, 0) : Nm) else if (k = gS p ∧ z = 0) ∧ b = 6 then some (9, gS p, 0) else if (k = gS p ∧ z = 0) ∧ b = 5 then some (8, gS p, 0) else if k = gS p ∧ z = 0 then none else if k < gS p ∧ z = 0 then (if b = 0 then some ((7, k, 0) : Nm) else if b = 5 then some (8, k, 0) else if b = 6 then some (9, k, 0) else none) else none)
    by_cases e : k = gS p
    · subst e
      by_cases z0 : z = 0
      · subst z0
        by_cases b0 : b = 0
        · subst b0; simp
        · by_cases b5 : b = 5
          · subst b5; simp
          · by_cases b6 : b = 6
            · subst b6; simp
            · simp [b0, b5, b6]
      · simp [z0]
    · have : k < gS p + 1 ↔ k < gS p := by omega
      simp [e, this]
  by_cases h8 : r = 8
  · subst h8
    simp only [Prod.mk.injEq]
    simp
    show (if k < gS p + 1 ∧ z = 0 then (itf (gW p) k (gT p) b).map (fun i => ((14, i, 0) : Nm)) else none) = (if k = gS p ∧ z = 0 then none else if k < gS p ∧ z = 0 then (itf (gW p) k (gT p) b).map (fun i => ((14, i, 0) : Nm)) else none)
    by_cases e : k = gS p
    · subst e
      rw [itf_no hw]; simp
    · have : k < gS p + 1 ↔ k < gS p := by omega
      simp [e, this]
  by_cases h9 : r = 9
  · subst h9
    simp only [Prod.mk.injEq]
    simp
    show (if k < gS p + 1 ∧ z = 0 ∧ b < (if k = gS p then 0 else gM p k) then some ((10, k, gP p k b) : Nm) else none) = (if k = gS p ∧ z = 0 then none else if k < gS p ∧ z = 0 ∧ b < gM p k then some ((10, k, gP p k b) : Nm) else none)
    by_cases e : k = gS p
    · subst e; simp
    · have : k < gS p + 1 ↔ k < gS p := by omega
      simp [e, this]
  by_cases h7 : r = 7
  · subst h7
    simp only [Prod.mk.injEq]
    simp
    show (none : Option Nm) = if k = gS p ∧ z = 0 then none else none
    simp
  simp only [Prod.mk.injEq, h2, h6, h7, h8, h9, false_and, if_false]
  by_cases h10 : r = 10
  · subst h10; exact wS_k2
  unfold Rf
  split <;> first | rfl | exact absurd (by assumption) h2 | exact absurd (by assumption) h6 | exact absurd (by assumption) h8 | exact absurd (by assumption) h9 | exact absurd (by assumption) h10
