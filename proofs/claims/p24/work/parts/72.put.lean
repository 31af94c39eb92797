/-! The place in turn. -/
def mvR (σ : PH) (O : Nat → Nat) (x s : Nat) : PH := (hK σ, hL σ, hI σ, fun a b => if a = (2, 1, 0) ∧ x < b ∧ b ≤ s then some ((6, O (b - 1), 0) : Nm) else hR σ a b, hJ σ)
theorem hK_mv (σ : PH) (O : Nat → Nat) (x s : Nat) : hK (mvR σ O x s) = hK σ := rfl
theorem hL_mv (σ : PH) (O : Nat → Nat) (x s : Nat) : hL (mvR σ O x s) = hL σ := rfl
theorem hI_mv (σ : PH) (O : Nat → Nat) (x s : Nat) : hI (mvR σ O x s) = hI σ := rfl
theorem hR_mv (σ : PH) (O : Nat → Nat) (x s : Nat) (a : Nm) (b : Nat) : hR (mvR σ O x s) a b = if a = (2, 1, 0) ∧ x < b ∧ b ≤ s then some ((6, O (b - 1), 0) : Nm) else hR σ a b := rfl
theorem mvR_id (σ : PH) (O : Nat → Nat) (s : Nat) : mvR σ O s s = σ := by
  obtain ⟨a, b, c, d, e⟩ := σ
  have : (fun (n : Nm) (j : Nat) => if n = (2, 1, 0) ∧ s < j ∧ j ≤ s then some ((6, O (j - 1), 0) : Nm) else d n j) = d := by
    funext n j; rw [if_neg (by omega)]
  show (a, b, c, (fun (n : Nm) (j : Nat) => if n = (2, 1, 0) ∧ s < j ∧ j ≤ s then some ((6, O (j - 1), 0) : Nm) else d n j), e) = (a, b, c, d, e)
  rw [this]
theorem mvR_step {σ : PH} {O : Nat → Nat} {x s : Nat} (h : x + 1 ≤ s) : sR (mvR σ O (x + 1) s) (2, 1, 0) (x + 1) (some (6, O x, 0)) = mvR σ O x s := by
  have : (fun (a : Nm) (b : Nat) => if a = (2, 1, 0) ∧ b = x + 1 then some ((6, O x, 0) : Nm) else if a = (2, 1, 0) ∧ x + 1 < b ∧ b ≤ s then some ((6, O (b - 1), 0) : Nm) else hR σ a b) = fun a b => if a = (2, 1, 0) ∧ x < b ∧ b ≤ s then some ((6, O (b - 1), 0) : Nm) else hR σ a b := by
    funext a b
    by_cases e : a = (2, 1, 0)
    · by_cases g : b = x + 1
      · subst g; rw [if_pos ⟨e, rfl⟩, if_pos ⟨e, by omega, h⟩]; rfl
      · rw [if_neg (fun q => g q.2)]
        by_cases w : x + 1 < b ∧ b ≤ s
        · rw [if_pos ⟨e, w⟩, if_pos ⟨e, by omega, w.2⟩]
        · rw [if_neg (fun q => w q.2), if_neg (fun q => w ⟨by omega, q.2.2⟩)]
    · rw [if_neg (fun q => e q.1), if_neg (fun q => e q.1), if_neg (fun q => e q.1)]
  show (hK σ, hL σ, hI σ, (fun (a : Nm) (b : Nat) => if a = (2, 1, 0) ∧ b = x + 1 then some ((6, O x, 0) : Nm) else if a = (2, 1, 0) ∧ x + 1 < b ∧ b ≤ s then some ((6, O (b - 1), 0) : Nm) else hR σ a b), hJ σ) = _
  rw [this]; rfl
theorem nI_dec (x : Nat) : nI (x + 1) + (-1) = nI x := by rw [← Int32.sub_eq_add_neg, nI_pred]
theorem c_tputL {σ : PH} {O pq : Nat → Nat} {s : Nat} {p2 : Int32} {K : Int32 → PH → Prop} {Q : PH → Prop} (s4 : s < 4) (k0 : hK σ (0, 0, 0) = 7) (r2 : hR σ (0, 0, 0) 2 = some (2, 1, 0)) (k2 : hK σ (2, 1, 0) = 13) (l2 : hL σ (2, 1, 0) = 4) (hO : ∀ j, j < s → hR σ (2, 1, 0) j = some (6, O j, 0) ∧ hK σ (6, O j, 0) = 5) (ks : hK σ (6, s, 0) = 5) (hp : ∀ j, j < s → hI σ (6, O j, 0) 3 = nI (pq (O j)) ∧ pq (O j) < 2 ^ 31) (hps : hI σ (6, s, 0) 3 = nI (pq s) ∧ pq s < 2 ^ 31)
    (hQ : ∀ x, x ≤ s → (∀ j, x ≤ j → j < s → pq (O j) < pq s) → (x = 0 ∨ ¬ pq (O (x - 1)) < pq s) → K (nI x) (mvR σ O x s)) : ∀ x, x ≤ s → (∀ j, x ≤ j → j < s → pq (O j) < pq s) → l6_putInTurn_2 (0, 0, 0) (6, s, 0) p2 K Q (x + 1) (nI x) (mvR σ O x s) := by
  intro x
  induction x with
  | zero =>
    intro h1 h2
    unfold l6_putInTurn_2
    exact ⟨fun _ => hQ 0 h1 h2 (Or.inl rfl), fun q => absurd (by decide) q⟩
  | succ x ih =>
    intro h1 h2
    have rx : hR (mvR σ O (x + 1) s) (2, 1, 0) x = some (6, O x, 0) := by
      rw [hR_mv, if_neg (by omega)]; exact (hO x (by omega)).1
    unfold l6_putInTurn_2
    refine ⟨fun q => ?_, fun _ => ⟨k0, (2, 1, 0), ?_, k2, ?_, ?_, ?_⟩⟩
    · rw [nI_le0 (by omega)] at q; omega
    · rw [hR_mv, if_neg (by simp)]; exact r2
    · rw [nI_sub1 (by omega)]; exact vinL 4 l2 (by omega) (by decide)
    · rw [nI_sub1 (by omega), nI_clamp (by omega), Nat.add_sub_cancel, rx]; intro e; cases e
    · rw [nI_sub1 (by omega), nI_clamp (by omega), Nat.add_sub_cancel, rx]
      intro m2 e; cases e
      rw [hK_mv, hI_mv, (hp x (by omega)).1, hps.1, nI_ltI (hp x (by omega)).2 hps.2]
      refine ⟨(hO x (by omega)).2, ks, fun w => ⟨vinL 4 l2 (by omega) (by decide), ?_⟩, fun w => hQ (x + 1) h1 h2 (Or.inr w)⟩
      rw [forall_eq, nI_clamp (by omega), mvR_step h1, nI_dec]
      refine ih (by omega) (fun j h3 h4 => ?_)
      by_cases e : j = x
      · subst e; exact w
      · exact h2 j (by omega) h4
theorem c_tput {σ : PH} {O pq : Nat → Nat} {s : Nat} {Q : PH → Prop} (s4 : s < 4) (k0 : hK σ (0, 0, 0) = 7) (r2 : hR σ (0, 0, 0) 2 = some (2, 1, 0)) (k2 : hK σ (2, 1, 0) = 13) (l2 : hL σ (2, 1, 0) = 4) (hO : ∀ j, j < s → hR σ (2, 1, 0) j = some (6, O j, 0) ∧ hK σ (6, O j, 0) = 5) (ks : hK σ (6, s, 0) = 5) (hp : ∀ j, j < s → hI σ (6, O j, 0) 3 = nI (pq (O j)) ∧ pq (O j) < 2 ^ 31) (hps : hI σ (6, s, 0) 3 = nI (pq s) ∧ pq s < 2 ^ 31)
    (hQ : ∀ x, x ≤ s → (∀ j, x ≤ j → j < s → pq (O j) < pq s) → (x = 0 ∨ ¬ pq (O (x - 1)) < pq s) → Q (sR (mvR σ O x s) (2, 1, 0) x (some (6, s, 0)))) : w6_putInTurn (0, 0, 0) (6, s, 0) (nI s) σ Q := by
  unfold w6_putInTurn
  refine ⟨s + 1, ?_⟩
  have key := fun K hQ => c_tputL (p2 := nI s) (K := K) (Q := Q) s4 k0 r2 k2 l2 hO ks hp hps hQ s (Nat.le_refl _) (fun j h1 h2 => by omega)
  rw [mvR_id] at key
  refine key _ (fun x h1 h2 h3 => ⟨k0, (2, 1, 0), ?_, k2, vinL 4 l2 (by omega) (by decide), ks, ?_⟩)
  · rw [hR_mv, if_neg (by simp)]; exact r2
  · rw [forall_eq, nI_clamp (by omega)]
    exact hQ x h1 h2 h3
