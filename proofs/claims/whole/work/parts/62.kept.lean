/-! Where a message is kept, the model. -/
theorem m_keptL {P : PP} {b : IF} {J : JF} {s : Nat} {x : Int32} (hs : s < 4) {K : Int32 → Int32 → PH → Prop} {Q : Int32 → PH → Prop} (h1 : ∀ k y, k < 5 → b (21, 30, 0) (5 * s + k) = x → ¬ x ≤ 0 → K (nI (5 * s + k)) y (S P b J)) (h2 : (x ≤ 0 ∨ ∀ k, k < 5 → b (21, 30, 0) (5 * s + k) ≠ x) → ∀ y, K (-1) y (S P b J)) : ∀ (d j : Nat) (f : Int32), j + d = 5 → ((f = -1 ∧ (x ≤ 0 ∨ ∀ k, k < j → b (21, 30, 0) (5 * s + k) ≠ x)) ∨ ∃ k, k < 5 ∧ f = nI (5 * s + k) ∧ b (21, 30, 0) (5 * s + k) = x ∧ ¬ x ≤ 0) → l7_keptAt_7 (20, 0, 0) (nI s) x K Q (d + 1) f (nI (5 * s + j)) (S P b J) := by
  intro d
  induction d with
  | zero =>
    intro j f h hf
    have : j = 5 := by omega
    subst this
    unfold l7_keptAt_7
    rw [nIx5, show (5 : Int32) = nI 5 from rfl, nI_add, nI_leI (by omega) (by omega)]
    refine ⟨fun _ => ?_, fun q => absurd (Nat.le_refl _) q⟩
    rcases hf with ⟨rfl, g⟩ | ⟨k, k1, rfl, k2, k3⟩
    · exact h2 g _
    · exact h1 k _ k1 k2 k3
  | succ d ih =>
    intro j f h hf
    unfold l7_keptAt_7
    rw [nIx5, show (5 : Int32) = nI 5 from rfl, nI_add, nI_leI (by omega) (by omega), nI_1, show 5 * s + j + 1 = 5 * s + (j + 1) by omega]
    refine ⟨fun q => by omega, fun _ => ⟨fun z => ih (j + 1) f (by omega) ?_, fun z => ⟨rfl, _, rfl, rfl, vinL 20 rfl (by omega) (by decide), ?_⟩⟩⟩
    · rcases hf with ⟨e, g⟩ | g
      · exact Or.inl ⟨e, Or.inl z⟩
      · exact Or.inr g
    · rw [hI_S, nI_clamp (by omega)]
      refine ⟨fun w => ih (j + 1) f (by omega) ?_, fun w => ih (j + 1) _ (by omega) (Or.inr ⟨j, by omega, rfl, w, z⟩)⟩
      rcases hf with ⟨e, g⟩ | g
      · refine Or.inl ⟨e, Or.inr (fun k hk => ?_)⟩
        by_cases e2 : k = j
        · subst e2; exact w
        · rcases g with g | g
          · exact absurd g z
          · exact g k (by omega)
      · exact Or.inr g
theorem m_keptAt {P : PP} {b : IF} {J : JF} {s : Nat} {x : Int32} (hs : s < 4) {Q : Int32 → PH → Prop} (h1 : ∀ k, k < 5 → b (21, 30, 0) (5 * s + k) = x → ¬ x ≤ 0 → Q (nI (5 * s + k)) (S P b J)) (h2 : (x ≤ 0 ∨ ∀ k, k < 5 → b (21, 30, 0) (5 * s + k) ≠ x) → Q (-1) (S P b J)) : w7_keptAt (20, 0, 0) (nI s) x (S P b J) Q := by
  unfold w7_keptAt
  rw [nIx5]
  exact ⟨6, m_keptL (K := fun y1 _ τ1 => Q y1 τ1) hs (fun k _ => h1 k) (fun h _ => h2 h) 5 0 (-1) (by omega) (Or.inl ⟨rfl, Or.inr (fun k hk => by omega)⟩)⟩
