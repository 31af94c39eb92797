/-! The law's loop. -/
theorem vj {L : Nat} (hL : L ≤ 3584) {a j : Nat} (h : a + 7 ≤ L) (hj : j ≤ 6) : vp_in (nI a + nI j) L := by
  rw [nI_add, vin_nI (by omega) (by omega)]; omega
theorem lw_neg : ∀ n, n < 7 → (nI n - 7).toInt < 0 := by decide
theorem lw_cmp {L a : Nat} (hL : L ≤ 3584) (ha : a ≤ 4000) : nI L - 7 < nI a ↔ L < a + 7 := by
  by_cases h : L < 7
  · refine ⟨fun _ => by omega, fun _ => ?_⟩
    rw [Int32.lt_iff_toInt_lt, nI_toInt (by omega)]
    have := lw_neg L h
    omega
  · rw [show (7 : Int32) = nI 7 from rfl, nI_sub (by omega), nI_ltI (by omega) (by omega)]; omega
theorem q_t {F : (Int32 → PH → Prop) → Prop} {c : Prop} (hc : c) {A B : Int32 → PH → Prop} (h : F A) : F (fun r σ => (c → A r σ) ∧ (¬ c → B r σ)) := by
  have e : (fun r σ => (c → A r σ) ∧ (¬ c → B r σ)) = A := by
    funext r σ
    exact propext ⟨fun g => g.1 hc, fun g => ⟨fun _ => g, fun z => absurd hc z⟩⟩
  rw [e]; exact h
theorem q_f {F : (Int32 → PH → Prop) → Prop} {c : Prop} (hc : ¬ c) {A B : Int32 → PH → Prop} (h : F B) : F (fun r σ => (c → A r σ) ∧ (¬ c → B r σ)) := by
  have e : (fun r σ => (c → A r σ) ∧ (¬ c → B r σ)) = B := by
    funext r σ
    exact propext ⟨fun g => g.2 hc, fun g => ⟨fun z => absurd z hc, fun _ => g⟩⟩
  rw [e]; exact h
set_option maxHeartbeats 16000000 in
theorem law_loop {Lx : Nat} {xs : Nat → Int32} {Q : Int32 → PH → Prop} (hL : Lx ≤ 3584) : ∀ (d k : Nat) (p : PP) (I : IF) (J : JF), k + d = 513 → 7 * k ≤ Lx → LI k p I → lL_law_23 Lx xs (0, 0, 0) (20, 0, 0) (22, 0, 0) (fun _ _ => True) Q d (nI (7 * k)) (S p I J) := by
  intro d
  induction d with
  | zero => intro k p I J h1 h2; omega
  | succ d ih =>
    intro k p I J h1 h2 h3
    unfold lL_law_23
    refine ⟨fun _ => trivial, fun w => ?_⟩
    rw [lw_cmp hL (by omega)] at w
    have g : 7 * k + 7 ≤ Lx := by omega
    have nx : ∀ p I J, LI (k + 1) p I → lL_law_23 Lx xs (0, 0, 0) (20, 0, 0) (22, 0, 0) (fun _ _ => True) Q d (nI (7 * k) + 7) (S p I J) := by
      intro p I J g2
      rw [show (7 : Int32) = nI 7 from rfl, nI_add]
      exact ih (k + 1) p I J (by omega) (by omega) g2
    have v : ∀ j, j ≤ 6 → vp_in (nI (7 * k) + nI j) Lx := fun j hj => vj hL g hj
    have h4 : LI (k + 1) p I := h3.mono (by omega)
    have h0 : hK (S p I J) (0, 0, 0) ≠ 0 := by rw [hK_S, kq0]; decide
    have h20 : hK (S p I J) (20, 0, 0) ≠ 0 := by rw [hK_S, kq20]; decide
    have h22 : hK (S p I J) (22, 0, 0) ≠ 0 := by rw [hK_S, kq22]; decide
    refine ⟨by rw [vin_nI (by omega) (by omega)]; omega, ?_⟩
    refine ⟨fun _ => ⟨v 1 (by decide), v 2 (by decide), L_write (by omega) h3 (fun r1 r2 p' I' J' hl e1 e2 => cont_i e1 e2 (nx p' I' J' hl))⟩, ?_⟩
    refine ⟨fun _ => ⟨v 1 (by decide), v 2 (by decide), v 3 (by decide), v 4 (by decide), v 5 (by decide), h0, h20, h22, L_open h4 (fun r1 r2 p' I' J' hl e1 e2 => cont_i e1 e2 (nx p' I' J' hl))⟩, ?_⟩
    refine ⟨fun _ => ⟨v 1 (by decide), L_close h4 (fun r1 r2 p' I' J' hl e1 e2 => cont_i e1 e2 (nx p' I' J' hl))⟩, ?_⟩
    refine ⟨fun _ => ⟨v 1 (by decide), v 2 (by decide), v 3 (by decide), v 4 (by decide), v 5 (by decide), fun c => ⟨v 6 (by decide), h0, h20, h22, q_t c (L_add zb0 h4 (fun r1 r2 p' I' J' hl e1 e2 => cont_i e1 e2 (nx p' I' J' hl)))⟩, fun c => ⟨v 6 (by decide), h0, h20, h22, q_f c (L_add zb1 h4 (fun r1 r2 p' I' J' hl e1 e2 => cont_i e1 e2 (nx p' I' J' hl)))⟩⟩, ?_⟩
    refine ⟨fun _ => ⟨v 1 (by decide), v 2 (by decide), fun c => q_t c (L_setReporting zb0 h4 (fun r1 r2 p' I' J' hl e1 e2 => cont_b e1 e2 (nx p' I' J' hl))), fun c => q_f c (L_setReporting zb1 h4 (fun r1 r2 p' I' J' hl e1 e2 => cont_b e1 e2 (nx p' I' J' hl)))⟩, ?_⟩
    refine ⟨fun _ => ⟨v 1 (by decide), v 2 (by decide), v 3 (by decide), fun c => q_t c (L_link zb0 h4 (fun r1 r2 p' I' J' hl e1 e2 => cont_b e1 e2 (nx p' I' J' hl))), fun c => q_f c (L_link zb1 h4 (fun r1 r2 p' I' J' hl e1 e2 => cont_b e1 e2 (nx p' I' J' hl)))⟩, ?_⟩
    refine ⟨fun _ => L_request h4 (fun r1 r2 p' I' J' hl e1 e2 => cont_i e1 e2 (nx p' I' J' hl)), ?_⟩
    refine ⟨fun _ => ⟨v 1 (by decide), h0, h20, h22, L_pass h4 (fun r1 r2 p' I' J' hl e1 e2 => cont_i e1 e2 (nx p' I' J' hl))⟩, ?_⟩
    refine ⟨fun _ => ⟨rfl, L_requests h4 (fun r p' I' J' hl => ⟨fun _ => nx p' I' J' hl, fun z => absurd rfl z⟩)⟩, ?_⟩
    refine ⟨fun _ => ⟨rfl, L_tick h4 (fun r p' I' J' hl => ⟨fun _ => nx p' I' J' hl, fun z => absurd rfl z⟩)⟩, ?_⟩
    refine ⟨fun _ => ⟨v 1 (by decide), v 2 (by decide), L_acknowledge h4 (fun r1 r2 p' I' J' hl e1 e2 => cont_b e1 e2 (nx p' I' J' hl))⟩, ?_⟩
    refine ⟨fun _ => ⟨v 1 (by decide), v 2 (by decide), L_size h4 (fun r1 r2 p' I' J' hl e1 e2 => cont_i e1 e2 (nx p' I' J' hl))⟩, ?_⟩
    refine ⟨fun _ => ⟨v 1 (by decide), v 2 (by decide), v 3 (by decide), L_valueAt h4 (fun r1 r2 p' I' J' hl e1 e2 => cont_i e1 e2 (nx p' I' J' hl))⟩, ?_⟩
    refine ⟨fun _ => ⟨v 1 (by decide), v 2 (by decide), v 3 (by decide), L_itemAt h4 (fun r1 r2 p' I' J' hl e1 e2 => cont_i e1 e2 (nx p' I' J' hl))⟩, ?_⟩
    refine ⟨fun _ => ⟨v 1 (by decide), v 2 (by decide), v 3 (by decide), L_isMarked h4 (fun r1 r2 p' I' J' hl e1 e2 => cont_b e1 e2 (nx p' I' J' hl))⟩, ?_⟩
    refine ⟨fun _ => ⟨v 1 (by decide), L_latest h4 (fun r1 r2 p' I' J' hl e1 e2 => cont_i e1 e2 (nx p' I' J' hl))⟩, ?_⟩
    refine ⟨fun _ => ⟨v 1 (by decide), L_keepAlives h4 (fun r1 r2 p' I' J' hl e1 e2 => cont_i e1 e2 (nx p' I' J' hl))⟩, ?_⟩
    refine ⟨fun _ => ⟨v 1 (by decide), L_waiting h4 (fun r1 r2 p' I' J' hl e1 e2 => cont_i e1 e2 (nx p' I' J' hl))⟩, ?_⟩
    refine ⟨fun _ => ⟨v 1 (by decide), L_queued h4 (fun r1 r2 p' I' J' hl e1 e2 => cont_i e1 e2 (nx p' I' J' hl))⟩, ?_⟩
    refine ⟨fun _ => ⟨v 1 (by decide), L_queuedByHistory (by omega) h4 (fun r1 r2 p' I' J' hl e1 e2 => cont_i e1 e2 (nx p' I' J' hl))⟩, ?_⟩
    refine ⟨fun _ => ⟨v 1 (by decide), L_isOpen h4 (fun r1 r2 p' I' J' hl e1 e2 => cont_b e1 e2 (nx p' I' J' hl))⟩, ?_⟩
    exact fun _ => nx p I J h4
