/-! The law's turns. -/
theorem c_cell {Lx j : Nat} {xs : Nat → Int32} {σ : PH} {Q : Int32 → PH → Prop} (hL : Lx ≤ 260) (hj : j < 1000) (h : ∀ x, Q x σ) : wL_cell Lx xs (nI j) σ Q := by
  unfold wL_cell
  refine ⟨fun _ => h _, fun w => ⟨?_, h _⟩⟩
  rw [nI_leI (by omega) (by omega)] at w
  rw [vin_nI (by omega) (by omega)]; omega
set_option maxHeartbeats 4000000 in
theorem law_loop {Lx : Nat} {xs : Nat → Int32} {Q : Int32 → PH → Prop} (hL : Lx ≤ 260) : ∀ (d k : Nat) (p : PP) (I : IF) (J : JF), k + d = 141 → k ≤ 140 → LX k p I → lL_law_102 Lx xs (0, 0, 0) (23, 0, 0) (23, 1, 0) (23, 2, 0) (23, 3, 0) (23, 4, 0) (23, 5, 0) (23, 6, 0) (23, 7, 0) (23, 8, 0) (23, 9, 0) (23, 10, 0) (23, 11, 0) (fun _ _ => True) Q d (nI k) (S p I J) := by
  intro d
  induction d with
  | zero => intro k p I J h1 h2; omega
  | succ d ih =>
    intro k p I J h1 h2 h3
    unfold lL_law_102
    refine ⟨fun _ => trivial, fun w => ?_⟩
    rw [show (140 : Int32) = nI 140 from rfl, nI_leI (by omega) (by omega)] at w
    have k3 : 3 * nI k = nI (3 * k) := nI_mul 3 k
    have nx : ∀ p I J, LX (k + 1) p I → lL_law_102 Lx xs (0, 0, 0) (23, 0, 0) (23, 1, 0) (23, 2, 0) (23, 3, 0) (23, 4, 0) (23, 5, 0) (23, 6, 0) (23, 7, 0) (23, 8, 0) (23, 9, 0) (23, 10, 0) (23, 11, 0) (fun _ _ => True) Q d (nI k + 1) (S p I J) := by
      intro p I J g2
      rw [nI_1]
      exact ih (k + 1) p I J (by omega) (by omega) g2
    have d10 : ¬ ((1 : Int32) = 0) := by decide
    rw [k3, show nI (3 * k) + 1 = nI (3 * k + 1) from nI_add _ 1, show nI (3 * k) + 2 = nI (3 * k + 2) from nI_add _ 2]
    refine c_cell hL (by omega) (fun r2 => c_cell hL (by omega) (fun r3 => c_cell hL (by omega) (fun r4 => ?_)))
    refine jW_i (fun _ σ => σ = S p I J) (fun x1 σ hσ => ?_) (fun K h => ⟨fun _ => ⟨fun _ => c_low (n := 30) (by decide) (by decide) (fun _ _ => h _ _ rfl), fun _ => h _ _ rfl⟩, fun _ => h _ _ rfl⟩)
    subst hσ
    refine ⟨fun _ => ⟨nz0, nzL (by decide), nzL (by decide), nzL (by decide), nzL (by decide), nzL (by decide), nzL (by decide), nzL (by decide), nzL (by decide), nzL (by decide), nzL (by decide), nzL (by decide), nzL (by decide), by omega, ?_⟩, fun _ => ⟨nz0, nzL (by decide), nzL (by decide), nzL (by decide), nzL (by decide), nzL (by decide), nzL (by decide), nzL (by decide), nzL (by decide), nzL (by decide), nzL (by decide), nzL (by decide), nzL (by decide), by omega, ?_⟩⟩
    · exact x_goes h3 (by omega) (fun p' I' J' hl => ⟨fun z => absurd z d10, fun _ => x_isTold hl (by omega) ⟨fun _ => nx p' I' J' hl, fun z => absurd z d10⟩⟩)
    · exact x_opens h3 (fun p' I' J' hl => ⟨fun z => absurd z d10, fun _ => x_isTold (hl.mono (Nat.le_succ k)) (by omega) ⟨fun _ => nx p' I' J' (hl.mono (Nat.le_succ k)), fun z => absurd z d10⟩⟩)
