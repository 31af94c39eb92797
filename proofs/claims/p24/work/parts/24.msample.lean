/-! What ties the model's half (b) to the class's (a); the model's sampling. -/
def MG (a b : IF) : Prop := b (20, 0, 0) 1 = a (0, 0, 0) 8 ∧ b (20, 0, 0) 35 = a (0, 0, 0) 7 ∧ b (20, 0, 0) 3 = a (0, 0, 0) 5 ∧ b (20, 0, 0) 15 = a (0, 0, 0) 6 ∧ ∀ k, k < 10 → b (21, 2, 0) k = a (1, 0, 0) k
def MS (a b : IF) (s : Nat) : Prop := b (21, 4, 0) s = a (6, s, 0) 7 ∧ b (21, 6, 0) s = a (7, s, 0) 0 ∧ b (21, 7, 0) s = a (6, s, 0) 1 ∧ b (21, 8, 0) s = a (6, s, 0) 2 ∧ b (21, 9, 0) s = a (6, s, 0) 3 ∧ b (21, 10, 0) s = a (6, s, 0) 4 ∧ b (21, 11, 0) s = a (6, s, 0) 12 ∧ b (21, 12, 0) s = a (6, s, 0) 13 ∧ b (21, 13, 0) s = a (6, s, 0) 10 ∧ b (21, 14, 0) s = a (6, s, 0) 11
def MI (p : PP) (a b : IF) (i : Nat) : Prop := b (21, 16, 0) i = nI (gW p i) ∧ b (21, 17, 0) i = a (14, i, 0) 2 ∧ b (21, 18, 0) i = a (14, i, 0) 10 ∧ b (21, 19, 0) i = a (15, i, 0) 0 ∧ b (21, 20, 0) i = a (16, i, 0) 0 ∧ b (21, 21, 0) i = a (16, i, 0) 1 ∧ b (21, 22, 0) i = a (14, i, 0) 3 ∧ b (21, 23, 0) i = a (14, i, 0) 6 ∧ b (21, 24, 0) i = a (14, i, 0) 7 ∧ b (21, 25, 0) i = a (14, i, 0) 9 ∧ b (21, 26, 0) i = a (14, i, 0) 8 ∧ b (21, 27, 0) i = a (16, i, 0) 4 ∧ (∀ k, k < 4 → b (21, 28, 0) (4 * i + k) = a (17, i, 0) k) ∧ ∀ k, k < 4 → b (21, 29, 0) (4 * i + k) = a (18, i, 0) k
/-- the messages of a subscription: each one kept by the class lies in a place of the model's, and no other does -/
def MM (p : PP) (a b : IF) (s : Nat) : Prop :=
  (∀ q, q < tn (a (6, s, 0) 9) → ∃ k, k < 5 ∧ b (21, 30, 0) (5 * s + k) = a (10, s, gP p s q) 3 ∧ b (21, 31, 0) (5 * s + k) = a (10, s, gP p s q) 4 ∧ ∀ n, n < tn (a (10, s, gP p s q) 4) → b (21, 32, 0) (10 * (5 * s + k) + n) = a (11, s, gP p s q) n ∧ b (21, 33, 0) (10 * (5 * s + k) + n) = a (12, s, gP p s q) n ∧ b (21, 34, 0) (10 * (5 * s + k) + n) = a (13, s, gP p s q) n) ∧
  (∀ k, k < 5 → b (21, 30, 0) (5 * s + k) = 0 ∨ ∃ q, q < tn (a (6, s, 0) 9) ∧ b (21, 30, 0) (5 * s + k) = a (10, s, gP p s q) 3) ∧
  ∀ k l, k < 5 → l < 5 → b (21, 30, 0) (5 * s + k) ≠ 0 → b (21, 30, 0) (5 * s + k) = b (21, 30, 0) (5 * s + l) → k = l
/-- beyond what there is, the model's rows hold zeros -/
def MZ (p : PP) (b : IF) : Prop := (∀ k s, 4 ≤ k → k ≤ 14 → gS p ≤ s → s < 4 → b (21, k, 0) s = 0) ∧ (∀ s k, gS p ≤ s → s < 4 → k < 5 → b (21, 30, 0) (5 * s + k) = 0) ∧ (∀ k i, 16 ≤ k → k ≤ 27 → gT p ≤ i → i < 16 → b (21, k, 0) i = 0) ∧ ∀ i k, gT p ≤ i → i < 16 → k < 4 → b (21, 28, 0) (4 * i + k) = 0 ∧ b (21, 29, 0) (4 * i + k) = 0
def MX (p : PP) (a b : IF) : Prop := MG a b ∧ (∀ s, s < gS p → MS a b s ∧ MM p a b s) ∧ (∀ i, i < gT p → MI p a b i) ∧ MZ p b
/-- a timer: its period, what is left, when it was set, the time -/
def TM (e l o : Int32) (t : Nat) : Prop := ∃ E x : Nat, e = nI E ∧ 1 ≤ E ∧ E ≤ 20 ∧ o = nI x ∧ x ≤ t ∧ l = nI (E - (t - x) % E)
theorem TM.step {e l o : Int32} {t : Nat} (ht : t + 1 ≤ 5000) (h : TM e l o t) : (l - 1 ≤ 0 ↔ (nI (t + 1) - o) - (nI (t + 1) - o) / e * e = 0) ∧ TM e (if l - 1 ≤ 0 then e else l - 1) o (t + 1) ∧ ¬ e = 0 := by
  obtain ⟨E, x, rfl, h1, h2, rfl, h3, rfl⟩ := h
  have hm : (t - x) % E < E := Nat.mod_lt _ (by omega)
  have e1 : nI (E - (t - x) % E) - 1 = nI (E - (t - x) % E - 1) := nI_sub1 (by omega)
  have e2 : nI (t + 1) - nI x = nI (t + 1 - x) := nI_sub (by omega)
  have e3 : t + 1 - x = (t - x) + 1 := by omega
  have e4 : ((t - x) + 1) % E = if (t - x) % E + 1 = E then 0 else (t - x) % E + 1 := by
    rw [Nat.add_mod]
    by_cases g : (t - x) % E + 1 = E
    · rw [if_pos g]
      by_cases g1 : E = 1
      · subst g1; simp [Nat.mod_one]
      · rw [Nat.mod_eq_of_lt (show 1 < E by omega), g, Nat.mod_self]
    · rw [if_neg g, Nat.mod_eq_of_lt (show 1 < E by omega), Nat.mod_eq_of_lt (by omega)]
  have e5 : nI (t + 1 - x) - nI (t + 1 - x) / nI E * nI E = nI ((t + 1 - x) % E) := pk_rem (by omega) (by omega) (by omega)
  refine ⟨?_, ?_, ?_⟩
  · rw [e1, e2, e5, nI_le0 (by omega), nI_e0 (by have := Nat.mod_lt (t + 1 - x) (show 0 < E by omega); omega), e3, e4]
    split <;> omega
  · refine ⟨E, x, rfl, h1, h2, rfl, by omega, ?_⟩
    rw [e1, e3, e4]
    by_cases g : (t - x) % E + 1 = E
    · rw [if_pos (by rw [nI_le0 (by omega)]; omega), if_pos g, Nat.sub_zero]
    · rw [if_neg (by rw [nI_le0 (by omega)]; omega), if_neg g]
      congr 1
  · rw [nI_e0 (by omega)]; omega
theorem far_iff {x y bd : Int32} (hx : bn x 0 1000) (hy : bn y 0 1000) : far x y bd ↔ farM x y bd := by
  obtain ⟨u, -, hu, rfl⟩ := hx
  obtain ⟨v, -, hv, rfl⟩ := hy
  unfold far farM
  by_cases h : u ≤ v
  · rw [if_pos (show nI u ≤ nI v from (nI_leI (by omega) (by omega)).mpr h), nI_sub h]
    by_cases g : u = v
    · subst g
      rw [show nI u - nI u = nI 0 from by rw [nI_sub (Nat.le_refl _), Nat.sub_self], if_pos (by decide), Nat.sub_self]
    · have e : ¬ (0 : Int32) ≤ nI u - nI v := by
        have : nI u - nI v = -nI (v - u) := by rw [← nI_sub h, Int32.neg_sub]
        rw [this, Int32.not_le, Int32.lt_iff_toInt_lt, sb_negT (by omega)]
        show -((v - u : Nat) : Int) < 0
        omega
      rw [if_neg e, show (0 : Int32) - (nI u - nI v) = nI v - nI u from by rw [Int32.zero_sub, Int32.neg_sub], nI_sub h]
  · rw [if_neg (show ¬ nI u ≤ nI v from by rw [nI_leI (by omega) (by omega)]; exact h), nI_sub (by omega), if_pos (by rw [nI_0le (by omega)]; trivial)]
