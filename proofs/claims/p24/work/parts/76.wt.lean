/-! A new item's shape. -/
def wT (p : PP) (s : Nat) : PP := (gS p, gT p + 1, gM p, gO p, fun x => if x = gT p then s else gW p x, gP p)
theorem cnt_cg {o o' : Nat → Nat} {s n : Nat} (h : ∀ i, i < n → o' i = o i) : cnt o' s n = cnt o s n := by
  induction n with
  | zero => rfl
  | succ n ih => rw [cnt, cnt, h n (by omega), ih (fun i hi => h i (by omega))]
theorem itf_cg {o o' : Nat → Nat} {s n j : Nat} (h : ∀ i, i < n → o' i = o i) : itf o' s n j = itf o s n j := by
  induction n with
  | zero => rfl
  | succ n ih => rw [itf, itf, h n (by omega), ih (fun i hi => h i (by omega)), cnt_cg (fun i hi => h i (by omega))]
theorem gW_t {p : PP} {s : Nat} : gW (wT p s) (gT p) = s := if_pos rfl
theorem gW_n {p : PP} {s i : Nat} (h : i ≠ gT p) : gW (wT p s) i = gW p i := if_neg h
theorem wT_cnt {p : PP} {s u : Nat} : cnt (gW (wT p s)) u (gT p + 1) = if s = u then cnt (gW p) u (gT p) + 1 else cnt (gW p) u (gT p) := by
  rw [cnt, gW_t, cnt_cg (fun i hi => gW_n (p := p) (s := s) (by omega))]
theorem wT_itf {p : PP} {s u j : Nat} : itf (gW (wT p s)) u (gT p + 1) j = if s = u ∧ j = cnt (gW p) u (gT p) then some (gT p) else itf (gW p) u (gT p) j := by
  rw [itf, gW_t, cnt_cg (fun i hi => gW_n (p := p) (s := s) (by omega)), itf_cg (fun i hi => gW_n (p := p) (s := s) (by omega))]
theorem Kf_wt {p : PP} {s : Nat} : Kf (wT p s) = fun a => if a = (15, gT p, 0) then 6 else if a = (18, gT p, 0) then 10 else if a = (17, gT p, 0) then 9 else if a = (16, gT p, 0) then 4 else if a = (14, gT p, 0) then 2 else Kf p a := by
  funext a
  obtain ⟨r, k, z⟩ := a
  by_cases h14 : r = 14
  · subst h14
    show (if k < gT p + 1 ∧ z = 0 then 2 else 0) = _
    rw [wS_k1]; simp only [Prod.mk.injEq]; simp; rfl
  by_cases h15 : r = 15
  · subst h15
    show (if k < gT p + 1 ∧ z = 0 then 6 else 0) = _
    rw [wS_k1]; simp only [Prod.mk.injEq]; simp; rfl
  by_cases h16 : r = 16
  · subst h16
    show (if k < gT p + 1 ∧ z = 0 then 4 else 0) = _
    rw [wS_k1]; simp only [Prod.mk.injEq]; simp; rfl
  by_cases h17 : r = 17
  · subst h17
    show (if k < gT p + 1 ∧ z = 0 then 9 else 0) = _
    rw [wS_k1]; simp only [Prod.mk.injEq]; simp; rfl
  by_cases h18 : r = 18
  · subst h18
    show (if k < gT p + 1 ∧ z = 0 then 10 else 0) = _
    rw [wS_k1]; simp only [Prod.mk.injEq]; simp; rfl
  simp only [Prod.mk.injEq, h14, h15, h16, h17, h18, false_and, if_false]
  unfold Kf
  split <;> first | rfl | exact absurd (by assumption) h14 | exact absurd (by assumption) h15 | exact absurd (by assumption) h16 | exact absurd (by assumption) h17 | exact absurd (by assumption) h18
theorem Lf_wt {p : PP} {s : Nat} : Lf (wT p s) = fun a => if a = (15, gT p, 0) then 0 else if a = (18, gT p, 0) then 4 else if a = (17, gT p, 0) then 4 else if a = (16, gT p, 0) then 0 else if a = (14, gT p, 0) then 0 else Lf p a := by
  funext a
  obtain ⟨r, k, z⟩ := a
  by_cases h14 : r = 14
  · subst h14
    simp only [Prod.mk.injEq]; simp
    show (0 : Nat) = if k = gT p ∧ z = 0 then 0 else 0
    simp
  by_cases h15 : r = 15
  · subst h15
    simp only [Prod.mk.injEq]; simp
    show (0 : Nat) = if k = gT p ∧ z = 0 then 0 else 0
    simp
  by_cases h16 : r = 16
  · subst h16
    simp only [Prod.mk.injEq]; simp
    show (0 : Nat) = if k = gT p ∧ z = 0 then 0 else 0
    simp
  by_cases h17 : r = 17
  · subst h17
    show (if k < gT p + 1 ∧ z = 0 then 4 else 0) = _
    rw [wS_k1]; simp only [Prod.mk.injEq]; simp; rfl
  by_cases h18 : r = 18
  · subst h18
    show (if k < gT p + 1 ∧ z = 0 then 4 else 0) = _
    rw [wS_k1]; simp only [Prod.mk.injEq]; simp; rfl
  simp only [Prod.mk.injEq, h14, h15, h16, h17, h18, false_and, if_false]
  unfold Lf
  split <;> first | rfl | exact absurd (by assumption) h17 | exact absurd (by assumption) h18
theorem Rf_wt {p : PP} {s : Nat} (hs : s < gS p) : Rf (wT p s) = fun a b => if a = (8, s, 0) ∧ b = cnt (gW p) s (gT p) then some ((14, gT p, 0) : Nm) else if a = (3, 0, 0) ∧ b = gT p then some (14, gT p, 0) else if a = (14, gT p, 0) ∧ b = 5 then some (16, gT p, 0) else if a = (14, gT p, 0) ∧ b = 4 then some (15, gT p, 0) else if a = (15, gT p, 0) then none else if a = (14, gT p, 0) ∧ b = 1 then some (6, s, 0) else if a = (16, gT p, 0) ∧ b = 3 then some (18, gT p, 0) else if a = (18, gT p, 0) then none else if a = (16, gT p, 0) ∧ b = 2 then some (17, gT p, 0) else if a = (17, gT p, 0) then none else if a = (16, gT p, 0) then none else if a = (14, gT p, 0) then none else Rf p a b := by
  funext a b
  obtain ⟨r, k, z⟩ := a
  by_cases h8 : r = 8
  · subst h8
    simp only [Prod.mk.injEq]
    simp
    show (if k < gS p ∧ z = 0 then (itf (gW (wT p s)) k (gT p + 1) b).map (fun i => ((14, i, 0) : Nm)) else none) = (if (k = s ∧ z = 0) ∧ b = cnt (gW p) s (gT p) then some ((14, gT p, 0) : Nm) else if k < gS p ∧ z = 0 then (itf (gW p) k (gT p) b).map (fun i => ((14, i, 0) : Nm)) else none)
    rw [wT_itf]
    by_cases e : k = s
    · subst e
      by_cases z0 : z = 0
      · by_cases g : b = cnt (gW p) k (gT p)
        · simp [z0, g, hs]
        · simp [z0, g, hs]
      · simp [z0]
    · have e' : ¬ s = k := fun q => e q.symm
      simp [e, e']
  by_cases h3 : r = 3
  · subst h3
    simp only [Prod.mk.injEq]
    simp
    show (if k = 0 ∧ z = 0 ∧ b < gT p + 1 then some ((14, b, 0) : Nm) else none) = (if (k = 0 ∧ z = 0) ∧ b = gT p then some ((14, gT p, 0) : Nm) else if k = 0 ∧ z = 0 ∧ b < gT p then some ((14, b, 0) : Nm) else none)
    by_cases e : k = 0 ∧ z = 0
    · by_cases g : b = gT p
      · subst g; simp [e]
      · have : b < gT p + 1 ↔ b < gT p := by omega
        simp [e, g, this]
    · have e2 : ¬ (k = 0 ∧ z = 0 ∧ b < gT p + 1) := fun q => e ⟨q.1, q.2.1⟩
      have e3 : ¬ (k = 0 ∧ z = 0 ∧ b < gT p) := fun q => e ⟨q.1, q.2.1⟩
      rw [if_neg e2, if_neg (fun q => e q.1), if_neg e3]
  by_cases h14 : r = 14
  · subst h14
    simp only [Prod.mk.injEq]
    simp
    show (if k < gT p + 1 ∧ z = 0 then (if b = 1 then some ((6, gW (wT p s) k, 0) : Nm) else if b = 4 then some (15, k, 0) else if b = 5 then some (16, k, 0) else none) else none) = (if (k = gT p ∧ z = 0) ∧ b = 5 then some ((16, gT p, 0) : Nm) else if (k = gT p ∧ z = 0) ∧ b = 4 then some (15, gT p, 0) else if (k = gT p ∧ z = 0) ∧ b = 1 then some (6, s, 0) else if k = gT p ∧ z = 0 then none else if k < gT p ∧ z = 0 then (if b = 1 then some ((6, gW p k, 0) : Nm) else if b = 4 then some (15, k, 0) else if b = 5 then some (16, k, 0) else none) else none)
    by_cases e : k = gT p
    · subst e
      rw [gW_t]
      by_cases z0 : z = 0
      · subst z0
        by_cases b1 : b = 1
        · subst b1; simp
        · by_cases b4 : b = 4
          · subst b4; simp
          · by_cases b5 : b = 5
            · subst b5; simp
            · simp [b1, b4, b5]
      · simp [z0]
    · have : k < gT p + 1 ↔ k < gT p := by omega
      rw [gW_n e]
      simp [e, this]
  by_cases h16 : r = 16
  · subst h16
    simp only [Prod.mk.injEq]
    simp
    show (if k < gT p + 1 ∧ z = 0 then (if b = 2 then some ((17, k, 0) : Nm) else if b = 3 then some (18, k, 0) else none) else none) = (if (k = gT p ∧ z = 0) ∧ b = 3 then some ((18, gT p, 0) : Nm) else if (k = gT p ∧ z = 0) ∧ b = 2 then some (17, gT p, 0) else if k = gT p ∧ z = 0 then none else if k < gT p ∧ z = 0 then (if b = 2 then some ((17, k, 0) : Nm) else if b = 3 then some (18, k, 0) else none) else none)
    by_cases e : k = gT p
    · subst e
      by_cases z0 : z = 0
      · subst z0
        by_cases b2 : b = 2
        · subst b2; simp
        · by_cases b3 : b = 3
          · subst b3; simp
          · simp [b2, b3]
      · simp [z0]
    · have : k < gT p + 1 ↔ k < gT p := by omega
      simp [e, this]
  by_cases h15 : r = 15
  · subst h15
    simp only [Prod.mk.injEq]
    simp
    show (none : Option Nm) = if k = gT p ∧ z = 0 then none else none
    simp
  by_cases h17 : r = 17
  · subst h17
    simp only [Prod.mk.injEq]
    simp
    show (none : Option Nm) = if k = gT p ∧ z = 0 then none else none
    simp
  by_cases h18 : r = 18
  · subst h18
    simp only [Prod.mk.injEq]
    simp
    show (none : Option Nm) = if k = gT p ∧ z = 0 then none else none
    simp
  simp only [Prod.mk.injEq, h8, h3, h14, h15, h16, h17, h18, false_and, if_false]
  unfold Rf
  split <;> first | rfl | exact absurd (by assumption) h3 | exact absurd (by assumption) h8 | exact absurd (by assumption) h14 | exact absurd (by assumption) h16
