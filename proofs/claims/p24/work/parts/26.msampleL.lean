/-- the items from i on stand at t, those before at t + 1 -/
def TIs (p : PP) (a : IF) (t i : Nat) : Prop := ∀ k, k < gT p → TI p a k (if k < i then t + 1 else t)
theorem TI.cg {p : PP} {a a' : IF} {i t : Nat} (h : ∀ r j, a' (r, i, 0) j = a (r, i, 0) j) (g : a' (6, gW p i, 0) 7 = a (6, gW p i, 0) 7) (k : TI p a i t) : TI p a' i t := by
  unfold TI at *
  rw [g]; simp only [h]; exact k
theorem TIs_samA {p : PP} {a : IF} {t i : Nat} (ht : t + 1 ≤ 5000) (hi : i < gT p) (h : TIs p a t i) : TIs p (samA p a i) t (i + 1) := by
  intro k hk
  by_cases e : k = i
  · subst e
    rw [if_pos (by omega)]
    have g := h k hk
    rw [if_neg (by omega)] at g
    exact TI_samA ht g
  · have g := h k hk
    have e2 : (if k < i + 1 then t + 1 else t) = if k < i then t + 1 else t := by
      by_cases z : k < i
      · rw [if_pos z, if_pos (by omega)]
      · rw [if_neg z, if_neg (by omega)]
    rw [e2]
    exact TI.cg (fun r j => samA_o (Or.inl e)) (samA_o (n := (6, gW p k, 0)) (Or.inr (Or.inl (show 6 < 14 by decide)))) g