/-! The model's tick. -/
def pr (a : IF) (u : Nat) : Nat := tn (a (6, u, 0) 3)
/-- the turn: by falling priority, the lower number first -/
def OQ (p : PP) (a : IF) : Prop := ∃ pos : Nat → Nat, (∀ s, s < gS p → pos s < gS p ∧ gO p (pos s) = s) ∧ (∀ t, t < gS p → gO p t < gS p ∧ pos (gO p t) = t) ∧ ∀ u v, u < gS p → v < gS p → (pos u < pos v ↔ (pr a v < pr a u ∨ (pr a u = pr a v ∧ u < v)))
theorem Tr_seq {p0 : PP} {a0 : IF} : ∀ (t : Nat) (p : PP) (a : IF) (c : Int32), Tr p0 a0 t p a c → ∃ (ps : Nat → PP) (as : Nat → IF) (cs rs : Nat → Int32), ps 0 = p0 ∧ as 0 = a0 ∧ cs 0 = 0 ∧ ps t = p ∧ as t = a ∧ cs t = c ∧ ∀ k, k < t → PT (ps k) (as k) (gO p0 k) (ps (k + 1)) (as (k + 1)) (rs k) ∧ cs (k + 1) = cs k + rs k := by
  intro t
  induction t with
  | zero =>
    intro p a c h
    obtain ⟨rfl, rfl, rfl⟩ := h
    exact ⟨fun _ => p, fun _ => a, fun _ => 0, fun _ => 0, rfl, rfl, rfl, rfl, rfl, rfl, fun k hk => by omega⟩
  | succ t ih =>
    intro p a c h
    obtain ⟨p1, a1, c1, r, h1, h2, h3⟩ := h
    obtain ⟨ps, as, cs, rs, g1, g2, g3, g4, g5, g6, g7⟩ := ih p1 a1 c1 h1
    refine ⟨fun k => if k ≤ t then ps k else p, fun k => if k ≤ t then as k else a, fun k => if k ≤ t then cs k else c, fun k => if k < t then rs k else r, ?_, ?_, ?_, ?_, ?_, ?_, fun k hk => ?_⟩
    · dsimp only; rw [if_pos (Nat.zero_le _)]; exact g1
    · dsimp only; rw [if_pos (Nat.zero_le _)]; exact g2
    · dsimp only; rw [if_pos (Nat.zero_le _)]; exact g3
    · dsimp only; rw [if_neg (by omega)]
    · dsimp only; rw [if_neg (by omega)]
    · dsimp only; rw [if_neg (by omega)]
    · dsimp only
      by_cases e : k < t
      · rw [if_pos (show k ≤ t by omega), if_pos (show k + 1 ≤ t by omega), if_pos (show k ≤ t by omega), if_pos (show k + 1 ≤ t by omega), if_pos e, if_pos (show k ≤ t by omega), if_pos (show k + 1 ≤ t by omega)]
        exact g7 k e
      · have : k = t := by omega
        subst this
        rw [if_pos (Nat.le_refl _), if_neg (show ¬ k + 1 ≤ k by omega), if_pos (Nat.le_refl _), if_neg (show ¬ k + 1 ≤ k by omega), if_neg e, if_pos (Nat.le_refl _), if_neg (show ¬ k + 1 ≤ k by omega), g4, g5, g6]
        exact ⟨h2, h3⟩