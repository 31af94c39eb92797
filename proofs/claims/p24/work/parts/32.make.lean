/-! A new message. -/
theorem hK_sNf (σ : PH) (n : Nm) (k len : Nat) : hK (sN σ n k len) = fun a => if a = n then k else hK σ a := rfl
theorem hL_sNf (σ : PH) (n : Nm) (k len : Nat) : hL (sN σ n k len) = fun a => if a = n then len else hL σ a := rfl
theorem hR_sNf (σ : PH) (n : Nm) (k len : Nat) : hR (sN σ n k len) = fun a b => if a = n then none else hR σ a b := rfl
theorem hR_sRf (σ : PH) (n : Nm) (j : Nat) (v : Option Nm) : hR (sR σ n j v) = fun a b => if a = n ∧ b = j then v else hR σ a b := rfl
theorem hI_sIf (σ : PH) (n : Nm) (j : Nat) (v : Int32) : hI (sI σ n j v) = up (hI σ) n j v := rfl
theorem hI_sNf (σ : PH) (n : Nm) (k len : Nat) : hI (sN σ n k len) = cl (hI σ) n := rfl
theorem Kf_ms {p : PP} {s m : Nat} {π π' : Nat → Nat} (hs : s < gS p) : Kf (setM p s (m + 1) π') = fun a => if a = (13, s, m) then 10 else if a = (12, s, m) then 9 else if a = (11, s, m) then 9 else if a = (10, s, m) then 3 else Kf (setM p s m π) a := by
  have key : ∀ k z c, (if k < gS p ∧ z < gM (setM p s (m + 1) π') k then c else 0) = (if k = s ∧ z = m then c else if k < gS p ∧ z < gM (setM p s m π) k then c else 0) := by
    intro k z c
    by_cases e : k = s
    · subst e
      rw [gM_s, gM_s]
      by_cases g : z = m
      · subst g; simp [hs]
      · by_cases q : z < m
        · rw [if_pos ⟨hs, by omega⟩, if_neg (fun w => g w.2), if_pos ⟨hs, q⟩]
        · rw [if_neg (by omega), if_neg (fun w => g w.2), if_neg (by omega)]
    · rw [gM_n e, gM_n e, if_neg (c := k = s ∧ z = m) (fun w => e w.1)]
  funext a
  obtain ⟨r, k, z⟩ := a
  by_cases h13 : r = 13
  · subst h13
    show (if k < gS p ∧ z < gM (setM p s (m + 1) π') k then 10 else 0) = _
    rw [key]; simp only [Prod.mk.injEq]; simp; rfl
  by_cases h12 : r = 12
  · subst h12
    show (if k < gS p ∧ z < gM (setM p s (m + 1) π') k then 9 else 0) = _
    rw [key]; simp only [Prod.mk.injEq]; simp; rfl
  by_cases h11 : r = 11
  · subst h11
    show (if k < gS p ∧ z < gM (setM p s (m + 1) π') k then 9 else 0) = _
    rw [key]; simp only [Prod.mk.injEq]; simp; rfl
  by_cases h10 : r = 10
  · subst h10
    show (if k < gS p ∧ z < gM (setM p s (m + 1) π') k then 3 else 0) = _
    rw [key]; simp only [Prod.mk.injEq]; simp; rfl
  simp only [Prod.mk.injEq, h13, h12, h11, h10, false_and, if_false]
  unfold Kf
  split <;> first | rfl | exact absurd (by assumption) h13 | exact absurd (by assumption) h12 | exact absurd (by assumption) h11 | exact absurd (by assumption) h10
theorem Lf_ms {p : PP} {s m : Nat} {π π' : Nat → Nat} (hs : s < gS p) : Lf (setM p s (m + 1) π') = fun a => if a = (13, s, m) then 10 else if a = (12, s, m) then 10 else if a = (11, s, m) then 10 else if a = (10, s, m) then 0 else Lf (setM p s m π) a := by
  have key : ∀ k z c, (if k < gS p ∧ z < gM (setM p s (m + 1) π') k then c else 0) = (if k = s ∧ z = m then c else if k < gS p ∧ z < gM (setM p s m π) k then c else 0) := by
    intro k z c
    by_cases e : k = s
    · subst e
      rw [gM_s, gM_s]
      by_cases g : z = m
      · subst g; simp [hs]
      · by_cases q : z < m
        · rw [if_pos ⟨hs, by omega⟩, if_neg (fun w => g w.2), if_pos ⟨hs, q⟩]
        · rw [if_neg (by omega), if_neg (fun w => g w.2), if_neg (by omega)]
    · rw [gM_n e, gM_n e, if_neg (c := k = s ∧ z = m) (fun w => e w.1)]
  funext a
  obtain ⟨r, k, z⟩ := a
  by_cases h13 : r = 13
  · subst h13
    show (if k < gS p ∧ z < gM (setM p s (m + 1) π') k then 10 else 0) = _
    rw [key]; simp only [Prod.mk.injEq]; simp; rfl
  by_cases h12 : r = 12
  · subst h12
    show (if k < gS p ∧ z < gM (setM p s (m + 1) π') k then 10 else 0) = _
    rw [key]; simp only [Prod.mk.injEq]; simp; rfl
  by_cases h11 : r = 11
  · subst h11
    show (if k < gS p ∧ z < gM (setM p s (m + 1) π') k then 10 else 0) = _
    rw [key]; simp only [Prod.mk.injEq]; simp; rfl
  by_cases h10 : r = 10
  · subst h10
    simp only [Prod.mk.injEq]; simp
    show (0 : Nat) = if k = s ∧ z = m then 0 else 0
    simp
  simp only [Prod.mk.injEq, h13, h12, h11, h10, false_and, if_false]
  unfold Lf
  split <;> first | rfl | exact absurd (by assumption) h13 | exact absurd (by assumption) h12 | exact absurd (by assumption) h11 | exact absurd (by assumption) h10
theorem Rf_ms {p : PP} {s m : Nat} {π π' : Nat → Nat} (hs : s < gS p) (h1 : π' m = m) (h2 : ∀ q, q < m → π' q = π q) : Rf (setM p s (m + 1) π') = fun a b => if a = (9, s, 0) ∧ b = m then some ((10, s, m) : Nm) else if a = (10, s, m) ∧ b = 2 then some (13, s, m) else if a = (13, s, m) then none else if a = (10, s, m) ∧ b = 1 then some (12, s, m) else if a = (12, s, m) then none else if a = (10, s, m) ∧ b = 0 then some (11, s, m) else if a = (11, s, m) then none else if a = (10, s, m) then none else Rf (setM p s m π) a b := by
  funext a b
  obtain ⟨r, k, z⟩ := a
  by_cases h9 : r = 9
  · subst h9
    simp only [Prod.mk.injEq]
    simp
    by_cases e : k = s ∧ z = 0
    · obtain ⟨rfl, rfl⟩ := e
      by_cases g : b = m
      · subst g; rw [rq9' hs (by omega), h1]; simp
      · simp only [g, and_false, if_false]
        by_cases q : b < m
        · rw [rq9' hs (by omega), rq9' hs q, h2 b q]
        · rw [rq9n' (by omega), rq9n' q]
    · rw [if_neg (fun w => e w.1)]
      show (if k < gS p ∧ z = 0 ∧ b < gM (setM p s (m + 1) π') k then some ((10, k, gP (setM p s (m + 1) π') k b) : Nm) else none) = (if k < gS p ∧ z = 0 ∧ b < gM (setM p s m π) k then some ((10, k, gP (setM p s m π) k b) : Nm) else none)
      by_cases q : z = 0
      · have hk : k ≠ s := fun w => e ⟨w, q⟩
        rw [gM_n hk, gM_n hk, gP_n hk, gP_n hk]
      · rw [if_neg (fun w => q w.2.1), if_neg (fun w => q w.2.1)]
  by_cases h10 : r = 10
  · subst h10
    simp only [Prod.mk.injEq]
    simp
    show (if k < gS p ∧ z < gM (setM p s (m + 1) π') k then (if b = 0 then some ((11, k, z) : Nm) else if b = 1 then some (12, k, z) else if b = 2 then some (13, k, z) else none) else none) = _
    by_cases e : k = s ∧ z = m
    · obtain ⟨rfl, rfl⟩ := e
      rw [gM_s, if_pos ⟨hs, by omega⟩]
      by_cases b0 : b = 0
      · subst b0; simp
      · by_cases b1 : b = 1
        · subst b1; simp
        · by_cases b2 : b = 2
          · subst b2; simp
          · simp [b0, b1, b2]
    · simp only [e, false_and, if_false]
      show _ = (if k < gS p ∧ z < gM (setM p s m π) k then (if b = 0 then some ((11, k, z) : Nm) else if b = 1 then some (12, k, z) else if b = 2 then some (13, k, z) else none) else none)
      by_cases q : k = s
      · subst q
        have hz : z ≠ m := fun w => e ⟨rfl, w⟩
        rw [gM_s, gM_s]
        by_cases w : z < m
        · rw [if_pos (show k < gS p ∧ z < m + 1 from ⟨hs, by omega⟩), if_pos (show k < gS p ∧ z < m from ⟨hs, w⟩)]
        · rw [if_neg (by omega), if_neg (by omega)]
      · rw [gM_n q, gM_n q]
  simp only [Prod.mk.injEq, h9, h10, false_and, if_false]
  have hx : Rf (setM p s (m + 1) π') (r, k, z) b = Rf (setM p s m π) (r, k, z) b := by
    unfold Rf
    split <;> first | rfl | exact absurd (by assumption) h9 | exact absurd (by assumption) h10
  rw [hx]
  by_cases h11 : r = 11
  · subst h11; simp; exact fun _ _ => rfl
  by_cases h12 : r = 12
  · subst h12; simp; exact fun _ _ => rfl
  by_cases h13 : r = 13
  · subst h13; simp; exact fun _ _ => rfl
  simp [h11, h12, h13]
