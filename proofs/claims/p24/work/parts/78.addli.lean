/-! add: what holds behind it; the call. -/
theorem WF_enq {p : PP} {a : IF} {i sz c : Nat} {x d : Int32} {m v : Nat → Int32} (h : WF p a) (hi : i < gT p) (h0 : a (16, i, 0) 0 = nI sz) (s1 : 1 ≤ sz) (s4 : sz ≤ 4) (hc : c ≤ sz) (hm : ∀ k, zb (m k)) (hx : bn x 0 1000) : WF p (enq a i sz c d v m x) := by
  obtain ⟨h1, h2, h3⟩ := h
  have o : ∀ {n : Nm} {j : Nat}, n.1 < 14 → enq a i sz c d v m x n j = a n j := fun g => enq_o (Or.inr (Or.inl g))
  refine ⟨?_, fun k hk => ?_, fun s hs => ?_⟩
  · unfold W1 at *
    simp only [o (n := (0, 0, 0)) (by decide), o (n := (1, 0, 0)) (by decide), o (n := (4, 0, 0)) (by decide)]
    exact h1
  · by_cases e : k = i
    · subst e; exact IS_enq (h2 k hk) h0 s1 s4 hc hm hx
    · exact IS.cg (fun r j => enq_o (Or.inl e)) (h2 k hk)
  · have g := h3 s hs
    unfold SS at *
    simp only [o (n := (6, s, 0)) (show 6 < 14 by decide), o (n := (7, s, 0)) (show 7 < 14 by decide), o (n := (10, s, _)) (show 10 < 14 by decide), o (n := (13, s, _)) (show 13 < 14 by decide)]
    exact g
section
variable {N : Nat} {p : PP} {I : IF} {J : JF} {R : Int32 → Int32 → PH → Prop}
set_option maxHeartbeats 8000000 in
theorem add_LI (h : LI N p I) {p2 p3 p4 p5 p6 : Int32} {s nd sz : Nat} {I2 b : IF} (hz : zb p5) (hs : s < gS p) (hnd : nd < 10) (e2 : p2 = nI nd) (s1 : 1 ≤ sz) (s4 : sz ≤ 4) (e4 : p4 = nI sz) (h3 : bn p3 1 20) (h6 : bn p6 0 1000) (hi : gT p < 16) (f : adI I I2 (gT p) s (cnt (gW p) s (gT p)) p2 p3 p4 p5 p6) (b16 : b (21, 16, 0) (gT p) = nI s) (b17 : b (21, 17, 0) (gT p) = p2) (b18 : b (21, 18, 0) (gT p) = adC I I2 (gT p) nd sz p5 (20, 0, 0) 1) (b19 : b (21, 19, 0) (gT p) = p3) (b20_ : b (21, 20, 0) (gT p) = p4) (b21 : b (21, 21, 0) (gT p) = p5) (b22 : b (21, 22, 0) (gT p) = p6) (b23 : b (21, 23, 0) (gT p) = 1) (b15 : b (20, 0, 0) 15 = nI (gT p + 1)) (bf : ∀ n j, ¬ (n = (20, 0, 0) ∧ (j = 0 ∨ j = 15)) → ¬ (n.1 = 21 ∧ 16 ≤ n.2.1 ∧ n.2.1 ≤ 23 ∧ j = gT p) → b n j = adC I I2 (gT p) nd sz p5 n j) : isR b (gT p) 0 (fun k => adB I I2 (gT p) (17, gT p, 0) k) (fun k => adB I I2 (gT p) (18, gT p, 0) k) ∧ (∀ k, zb (adB I I2 (gT p) (18, gT p, 0) k)) ∧ b (21, 26, 0) (gT p) = 0 ∧ b (21, 2, 0) nd = I (1, 0, 0) nd ∧ LI N (wT p s) (enqR b (gT p) sz 0 p5 (fun k => adB I I2 (gT p) (17, gT p, 0) k) (fun k => adB I I2 (gT p) (18, gT p, 0) k) (I (1, 0, 0) nd)) := by
  obtain ⟨t, hIV, hG, hH, hN⟩ := h
  obtain ⟨hW, hM, hTI, hSN, hTS, hnow, hOQ, h5⟩ := hIV
  obtain ⟨⟨f0, f2, f3, f6, f7, f8, f9⟩, ⟨t0, t1⟩, ⟨q0, q1, q4, q7, q8⟩, fc, fs, ff⟩ := f
  have h16 := hW.1.2.2.2.1
  obtain ⟨hx0, -, hx2⟩ := bn_tn (hW.1.2.2.2.2.1 nd hnd) (by decide)
  -- before the first sample
  have o14 : ∀ j, j ≠ 10 → j ≠ 11 → adB I I2 (gT p) (14, gT p, 0) j = I2 (14, gT p, 0) j := fun j g1 g2 => by rw [adB, up_nj g2, up_nj g1]
  have o10 : adB I I2 (gT p) (14, gT p, 0) 10 = I (0, 0, 0) 8 := by rw [adB, up_nj (by decide), up_same]
  have o11 : adB I I2 (gT p) (14, gT p, 0) 11 = I (4, 0, 0) 3 := by rw [adB, up_same]
  have oo : ∀ r k z j, r ≠ 14 ∨ k ≠ gT p → adB I I2 (gT p) (r, k, z) j = I2 (r, k, z) j := fun r k z j g => by
    have : ¬ ((r, k, z) : Nm) = (14, gT p, 0) := fun e => by simp only [Prod.mk.injEq] at e; omega
    rw [adB, up_ne (fun q => this q.1), up_ne (fun q => this q.1)]
  have q18 : ∀ k, zb (adB I I2 (gT p) (18, gT p, 0) k) := fun k => by rw [oo _ _ _ _ (Or.inl (by decide)), q8]; exact zb0
  have alB : ∀ r k z j, (r < 14 ∨ 18 < r ∨ k ≠ gT p) → (r ≠ 0 ∨ j ≠ 6) → (r ≠ 6 ∨ k ≠ s ∨ j ≠ 8) → adB I I2 (gT p) (r, k, z) j = I (r, k, z) j := fun r k z j g1 g2 g3 => by
    rw [oo _ _ _ _ (by omega)]
    exact ff _ j (fun q => by simp only [Prod.mk.injEq] at q; omega) (fun q => by simp only [Prod.mk.injEq] at q; omega) (fun q => by simp only [Prod.mk.injEq] at q; omega) (fun q => by simp only [Prod.mk.injEq] at q; omega) (fun q => by simp only [Prod.mk.injEq] at q; omega) (fun q => by have := q.1; simp only [Prod.mk.injEq] at this; omega) (fun q => by have := q.1; simp only [Prod.mk.injEq] at this; omega)
  have e16 : adB I I2 (gT p) (16, gT p, 0) 0 = nI sz := by rw [oo _ _ _ _ (Or.inl (by decide)), q0, e4]
  have c6 : adB I I2 (gT p) (0, 0, 0) 6 = nI (gT p + 1) := by rw [oo _ _ _ _ (Or.inl (by decide))]; exact fc
  have s8 : adB I I2 (gT p) (6, s, 0) 8 = nI (cnt (gW p) s (gT p) + 1) := by rw [oo _ _ _ _ (Or.inl (by decide))]; exact fs
  have p14 : ∀ j, j ≠ 10 → j ≠ 11 → adB I I2 (gT p) (14, gT p, 0) j = I2 (14, gT p, 0) j := o14
  have p15 : ∀ j, adB I I2 (gT p) (15, gT p, 0) j = I2 (15, gT p, 0) j := fun j => oo _ _ _ _ (Or.inl (by decide))
  have p16 : ∀ j, adB I I2 (gT p) (16, gT p, 0) j = I2 (16, gT p, 0) j := fun j => oo _ _ _ _ (Or.inl (by decide))
  have p17 : ∀ j, adB I I2 (gT p) (17, gT p, 0) j = 0 := fun j => by rw [oo _ _ _ _ (Or.inl (by decide)), q7]
  have p18 : ∀ j, adB I I2 (gT p) (18, gT p, 0) j = 0 := fun j => by rw [oo _ _ _ _ (Or.inl (by decide)), q8]
  -- behind it
  unfold adC at b18 bf
  generalize adB I I2 (gT p) = B at *
  have alA : ∀ r k z j, (r < 14 ∨ 18 < r ∨ k ≠ gT p) → (r ≠ 0 ∨ j ≠ 6) → (r ≠ 6 ∨ k ≠ s ∨ j ≠ 8) → enq B (gT p) sz 0 p5 (fun k => B (17, gT p, 0) k) (fun k => B (18, gT p, 0) k) (I (1, 0, 0) nd) (r, k, z) j = I (r, k, z) j := fun r k z j g1 g2 g3 => by
    rw [enq_o (by show k ≠ gT p ∨ r < 14 ∨ 18 < r; omega)]; exact alB r k z j g1 g2 g3
  have A15 : ∀ j, enq B (gT p) sz 0 p5 (fun k => B (17, gT p, 0) k) (fun k => B (18, gT p, 0) k) (I (1, 0, 0) nd) (15, gT p, 0) j = I2 (15, gT p, 0) j := fun j => by
    rw [enq, up_ne (by simp), up_ne (by simp), setQ_o (by simp) (by simp) (by simp), p15]
  have A14 : ∀ j, j ≠ 8 → j ≠ 9 → enq B (gT p) sz 0 p5 (fun k => B (17, gT p, 0) k) (fun k => B (18, gT p, 0) k) (I (1, 0, 0) nd) (14, gT p, 0) j = B (14, gT p, 0) j := fun j g1 g2 => by
    rw [enq, up_nj g1, up_nj g2, setQ_o (by simp) (by simp) (by simp)]
  have A8 : enq B (gT p) sz 0 p5 (fun k => B (17, gT p, 0) k) (fun k => B (18, gT p, 0) k) (I (1, 0, 0) nd) (14, gT p, 0) 8 = nI 1 := by
    rw [enq, up_same, p14 8 (by decide) (by decide), f8]; rfl
  have A9 : enq B (gT p) sz 0 p5 (fun k => B (17, gT p, 0) k) (fun k => B (18, gT p, 0) k) (I (1, 0, 0) nd) (14, gT p, 0) 9 = I (1, 0, 0) nd := by
    rw [enq, up_nj (by decide), up_same]
  have bl : ∀ k j, (k < 16 ∨ 23 < k ∨ j ≠ gT p) → b (21, k, 0) j = I (21, k, 0) j := fun k j g => by
    rw [bf _ j (by simp) (fun q => by have := q.2; simp only at this; omega)]; exact alA 21 _ _ _ (Or.inr (Or.inl (by omega))) (Or.inl (by omega)) (Or.inl (by omega))
  have b20 : ∀ j, j ≠ 0 → j ≠ 15 → b (20, 0, 0) j = I (20, 0, 0) j := fun j g1 g2 => by
    rw [bf _ j (fun q => by omega) (by simp)]; exact alA 20 _ _ _ (Or.inr (Or.inl (by omega))) (Or.inl (by omega)) (Or.inl (by omega))
  obtain ⟨hMG, hMS, hMI, z1, z2, z3, z4⟩ := hM
  have b24 : ∀ k, 24 ≤ k → k ≤ 27 → b (21, k, 0) (gT p) = 0 := fun k g1 g2 => by
    rw [bl k _ (Or.inr (Or.inl (by omega)))]; exact z3 k _ (by omega) g2 (Nat.le_refl _) hi
  have b28 : ∀ k, k < 4 → b (21, 28, 0) (4 * gT p + k) = 0 ∧ b (21, 29, 0) (4 * gT p + k) = 0 := fun k hk => by
    rw [bl 28 _ (Or.inr (Or.inl (by decide))), bl 29 _ (Or.inr (Or.inl (by decide)))]; exact z4 _ k (Nat.le_refl _) hi hk
  have hRr : isR b (gT p) 0 (fun k => B (17, gT p, 0) k) (fun k => B (18, gT p, 0) k) := ⟨b24 27 (by decide) (by decide), fun k hk => (b28 k hk).1.trans (p17 k).symm, fun k hk => (b28 k hk).2.trans (p18 k).symm⟩
  refine ⟨hRr, q18, b24 26 (by decide) (by decide), by rw [bl 2 _ (Or.inl (by decide))]; exact hMG.2.2.2.2 nd hnd, ?_⟩
  have hi' : gT p < gT (wT p s) := Nat.lt_succ_self _
  have hWB : WF (wT p s) B := by
    obtain ⟨w1, w2, w3⟩ := hW
    refine ⟨?_, fun k hk => ?_, fun u hu => ?_⟩
    · obtain ⟨c1, c2, c3, c4, c5, c6', c7, c8, c9⟩ := w1
      refine ⟨by rw [alB 0 _ _ _ (Or.inl (by decide)) (Or.inr (by decide)) (Or.inl (by decide))]; exact c1, c2, c6, (show gT p + 1 ≤ 16 by omega), fun k hk => by rw [alB 1 _ _ _ (Or.inl (by decide)) (Or.inl (by decide)) (Or.inl (by decide))]; exact c5 k hk, fun k hk => ?_, by rw [alB 0 _ _ _ (Or.inl (by decide)) (Or.inr (by decide)) (Or.inl (by decide))]; exact c7, by rw [alB 0 _ _ _ (Or.inl (by decide)) (Or.inr (by decide)) (Or.inl (by decide))]; exact c8, by rw [alB 4 _ _ _ (Or.inl (by decide)) (Or.inl (by decide)) (Or.inl (by decide))]; exact c9⟩
      have hk' : k < gT p + 1 := hk
      by_cases e : k = gT p
      · subst e; rw [gW_t]; exact hs
      · rw [gW_n e]; exact c6' k (by omega)
    · have hk' : k < gT p + 1 := hk
      by_cases e : k = gT p
      · subst e
        refine ⟨by rw [p14 0 (by decide) (by decide)]; exact f0, by rw [p14 2 (by decide) (by decide), f2, e2]; exact bn_nI (by omega) (by omega), by rw [p14 3 (by decide) (by decide), f3]; exact h6, by rw [p14 9 (by decide) (by decide), f9]; exact bn_nI (k := 0) (by omega) (by omega), by rw [p14 6 (by decide) (by decide), f6]; exact zb1, by rw [p15, t0]; exact h3, sz, 0, e16, s1, s4, by rw [p16, q4]; rfl, by omega, q18⟩
      · have g := w2 k (by omega)
        unfold IS at *
        simp only [alB 14 k _ _ (Or.inr (Or.inr e)) (Or.inl (by decide)) (Or.inl (by decide)), alB 15 k _ _ (Or.inr (Or.inr e)) (Or.inl (by decide)) (Or.inl (by decide)), alB 16 k _ _ (Or.inr (Or.inr e)) (Or.inl (by decide)) (Or.inl (by decide)), alB 18 k _ _ (Or.inr (Or.inr e)) (Or.inl (by decide)) (Or.inl (by decide))]; exact g
    · obtain ⟨g1, g2, g3, g4, g5, g6, g7⟩ := w3 u hu
      have a6 : ∀ j, j ≠ 8 → B (6, u, 0) j = I (6, u, 0) j := fun j g => alB 6 _ _ _ (Or.inl (by decide)) (Or.inl (by decide)) (Or.inr (Or.inr g))
      refine ⟨by rw [a6 7 (by decide)]; exact g1, by rw [alB 7 _ _ _ (Or.inl (by decide)) (Or.inl (by decide)) (Or.inl (by decide))]; exact g2, by rw [a6 3 (by decide)]; exact g3, by rw [a6 4 (by decide)]; exact g4, ?_, by rw [a6 9 (by decide)]; exact g6, ?_⟩
      · show B (6, u, 0) 8 = nI (cnt (gW (wT p s)) u (gT p + 1))
        rw [wT_cnt]
        by_cases e : s = u
        · subst e; rw [if_pos rfl]; exact s8
        · rw [if_neg e, alB 6 _ _ _ (Or.inl (by decide)) (Or.inl (by decide)) (Or.inr (Or.inl (fun q => e q.symm)))]; exact g5
      · simp only [alB 10 _ _ _ (Or.inl (show 10 < 14 by decide)) (Or.inl (show 10 ≠ 0 by decide)) (Or.inl (show 10 ≠ 6 by decide)), alB 13 _ _ _ (Or.inl (show 13 < 14 by decide)) (Or.inl (show 13 ≠ 0 by decide)) (Or.inl (show 13 ≠ 6 by decide))]
        exact g7
  have hXB : MX (wT p s) B b := by
    refine ⟨?_, fun u hu => ⟨?_, ?_⟩, fun k hk => ?_, ?_, ?_, ?_, ?_⟩
    · obtain ⟨m1, m2, m3, m4, m5⟩ := hMG
      refine ⟨?_, ?_, ?_, ?_, fun k hk => ?_⟩
      · rw [b20 1 (by decide) (by decide), alB 0 _ _ _ (Or.inl (by decide)) (Or.inr (by decide)) (Or.inl (by decide))]; exact m1
      · rw [b20 35 (by decide) (by decide), alB 0 _ _ _ (Or.inl (by decide)) (Or.inr (by decide)) (Or.inl (by decide))]; exact m2
      · rw [b20 3 (by decide) (by decide), alB 0 _ _ _ (Or.inl (by decide)) (Or.inr (by decide)) (Or.inl (by decide))]; exact m3
      · rw [b15, c6]
      · rw [bl 2 _ (Or.inl (by decide)), alB 1 _ _ _ (Or.inl (by decide)) (Or.inl (by decide)) (Or.inl (by decide))]; exact m5 k hk
    · have g := (hMS u hu).1
      have a6 : ∀ j, j ≠ 8 → B (6, u, 0) j = I (6, u, 0) j := fun j g => alB 6 _ _ _ (Or.inl (by decide)) (Or.inl (by decide)) (Or.inr (Or.inr g))
      unfold MS at *
      rw [bl 4 _ (Or.inl (by decide)), bl 6 _ (Or.inl (by decide)), bl 7 _ (Or.inl (by decide)), bl 8 _ (Or.inl (by decide)), bl 9 _ (Or.inl (by decide)), bl 10 _ (Or.inl (by decide)), bl 11 _ (Or.inl (by decide)), bl 12 _ (Or.inl (by decide)), bl 13 _ (Or.inl (by decide)), bl 14 _ (Or.inl (by decide)), a6 7 (by decide), a6 1 (by decide), a6 2 (by decide), a6 3 (by decide), a6 4 (by decide), a6 12 (by decide), a6 13 (by decide), a6 10 (by decide), a6 11 (by decide), alB 7 _ _ _ (Or.inl (by decide)) (Or.inl (by decide)) (Or.inl (by decide))]; exact g
    · have g := (hMS u hu).2
      have lo : ∀ r k z j, 9 < r → r < 14 → B (r, k, z) j = I (r, k, z) j := fun r k z j g1 g2 => alB r _ _ _ (Or.inl g2) (Or.inl (by omega)) (Or.inl (by omega))
      have a9 : B (6, u, 0) 9 = I (6, u, 0) 9 := alB 6 _ _ _ (Or.inl (by decide)) (Or.inl (by decide)) (Or.inr (Or.inr (by decide)))
      unfold MM at *
      rw [a9]
      simp only [lo 10 _ _ _ (by decide) (by decide), lo 11 _ _ _ (by decide) (by decide), lo 12 _ _ _ (by decide) (by decide), lo 13 _ _ _ (by decide) (by decide), bl 30 _ (Or.inr (Or.inl (by decide))), bl 31 _ (Or.inr (Or.inl (by decide))), bl 32 _ (Or.inr (Or.inl (by decide))), bl 33 _ (Or.inr (Or.inl (by decide))), bl 34 _ (Or.inr (Or.inl (by decide)))]
      exact g
    · have hk' : k < gT p + 1 := hk
      by_cases e : k = gT p
      · subst e
        have n1 : I (20, 0, 0) 1 = I (0, 0, 0) 8 := hMG.1
        refine ⟨by rw [b16, gW_t], by rw [b17, p14 2 (by decide) (by decide), f2], ?_, by rw [b19, p15, t0], by rw [b20_, p16, q0], by rw [b21, p16, q1], by rw [b22, p14 3 (by decide) (by decide), f3], by rw [b23, p14 6 (by decide) (by decide), f6], by rw [b24 24 (by decide) (by decide), p14 7 (by decide) (by decide), f7], by rw [b24 25 (by decide) (by decide), p14 9 (by decide) (by decide), f9], by rw [b24 26 (by decide) (by decide), p14 8 (by decide) (by decide), f8], by rw [b24 27 (by decide) (by decide), p16, q4], fun q hq => by rw [(b28 q hq).1, p17], fun q hq => by rw [(b28 q hq).2, p18]⟩
        rw [b18, o10, alA 20 _ _ _ (Or.inr (Or.inl (by decide))) (Or.inl (by decide)) (Or.inl (by decide)), n1]
      · have g := hMI k (by omega)
        unfold MI at *
        rw [gW_n e]
        simp only [alB 14 k _ _ (Or.inr (Or.inr e)) (Or.inl (show 14 ≠ 0 by decide)) (Or.inl (show 14 ≠ 6 by decide)), alB 15 k _ _ (Or.inr (Or.inr e)) (Or.inl (show 15 ≠ 0 by decide)) (Or.inl (show 15 ≠ 6 by decide)), alB 16 k _ _ (Or.inr (Or.inr e)) (Or.inl (show 16 ≠ 0 by decide)) (Or.inl (show 16 ≠ 6 by decide)), alB 17 k _ _ (Or.inr (Or.inr e)) (Or.inl (show 17 ≠ 0 by decide)) (Or.inl (show 17 ≠ 6 by decide)), alB 18 k _ _ (Or.inr (Or.inr e)) (Or.inl (show 18 ≠ 0 by decide)) (Or.inl (show 18 ≠ 6 by decide)), bl _ k (Or.inr (Or.inr e)), bl 28 _ (Or.inr (Or.inl (show 23 < 28 by decide))), bl 29 _ (Or.inr (Or.inl (show 23 < 29 by decide)))]
        exact g
    · intro k u g1 g2 g3 g4; rw [bl k _ (Or.inl (by omega))]; exact z1 k u g1 g2 g3 g4
    · intro u l g1 g2 g3; rw [bl 30 _ (Or.inr (Or.inl (by decide)))]; exact z2 u l g1 g2 g3
    · intro k j g1 g2 g3 g4
      have g3' : gT p + 1 ≤ j := g3
      rw [bl k _ (Or.inr (Or.inr (by omega)))]; exact z3 k j g1 g2 (by omega) g4
    · intro j k g1 g2 g3
      have g1' : gT p + 1 ≤ j := g1
      rw [bl 28 _ (Or.inr (Or.inl (by decide))), bl 29 _ (Or.inr (Or.inl (by decide)))]; exact z4 j k (by omega) g2 g3
  have hbx : bn (I (1, 0, 0) nd) 0 1000 := hW.1.2.2.2.2.1 nd hnd
  have hWA := WF_enq (d := p5) (v := fun k => B (17, gT p, 0) k) (m := fun k => B (18, gT p, 0) k) hWB hi' e16 s1 s4 (Nat.zero_le _) q18 hbx
  have hXA := MX_enq (c := 0) (d := p5) (x := I (1, 0, 0) nd) hXB hi' e16
  have fr := FR_enqR (I := b) (i := gT p) (sz := sz) (c := 0) (d := p5) (v := fun k => B (17, gT p, 0) k) (m := fun k => B (18, gT p, 0) k) (x := I (1, 0, 0) nd)
  have hca : CA (enq B (gT p) sz 0 p5 (fun k => B (17, gT p, 0) k) (fun k => B (18, gT p, 0) k) (I (1, 0, 0) nd)) (enqR b (gT p) sz 0 p5 (fun k => B (17, gT p, 0) k) (fun k => B (18, gT p, 0) k) (I (1, 0, 0) nd)) := fun n j hn => by
    rw [fr n j (Or.inl hn)]
    exact bf n j (fun q => by rw [q.1] at hn; exact absurd hn (by simp)) (fun q => by omega)
  have b5 : ∀ u, enqR b (gT p) sz 0 p5 (fun k => B (17, gT p, 0) k) (fun k => B (18, gT p, 0) k) (I (1, 0, 0) nd) (21, 5, 0) u = I (21, 5, 0) u := fun u => by
    rw [fr (21, 5, 0) u (by simp)]; exact bl 5 _ (Or.inl (by decide))
  generalize enqR b (gT p) sz 0 p5 (fun k => B (17, gT p, 0) k) (fun k => B (18, gT p, 0) k) (I (1, 0, 0) nd) = b2 at hXA hca b5 ⊢
  generalize enq B (gT p) sz 0 p5 (fun k => B (17, gT p, 0) k) (fun k => B (18, gT p, 0) k) (I (1, 0, 0) nd) = A at *
  have A10 : A (14, gT p, 0) 10 = nI t := by rw [A14 10 (by decide) (by decide), o10]; exact hnow
  have A6 : ∀ u j, j ≠ 8 → A (6, u, 0) j = I (6, u, 0) j := fun u j g => alA 6 _ _ _ (Or.inl (by decide)) (Or.inl (by decide)) (Or.inr (Or.inr g))
  have A4 : ∀ j, A (4, 0, 0) j = I (4, 0, 0) j := fun j => alA 4 _ _ _ (Or.inl (by decide)) (Or.inl (by decide)) (Or.inl (by decide))
  have A5 : ∀ k j, A (5, k, 0) j = I (5, k, 0) j := fun k j => alA 5 _ _ _ (Or.inl (by decide)) (Or.inl (by decide)) (Or.inl (by decide))
  have A1 : ∀ j, A (1, 0, 0) j = I (1, 0, 0) j := fun j => alA 1 _ _ _ (Or.inl (by decide)) (Or.inl (by decide)) (Or.inl (by decide))
  have h2 : IV (wT p s) A b2 t := by
    refine ⟨hWA, hXA, fun k hk => ?_, fun u hu => SN.cg rfl (A6 _ _ (by decide)) (A6 _ _ (by decide)) (fun o => alA 10 _ _ _ (Or.inl (by decide)) (Or.inl (by decide)) (Or.inl (by decide))) (hSN u hu), fun u hu => ?_, ?_, ?_, h5⟩
    · have hk' : k < gT p + 1 := hk
      by_cases e : k = gT p
      · subst e
        right
        obtain ⟨E, E1, E2, E3⟩ := h3
        refine ⟨⟨E, t, by rw [A15, t0]; exact E3, E1, E2, A10, Nat.le_refl _, ?_⟩, ?_⟩
        · rw [A15, t1, E3, Nat.sub_self, Nat.zero_mod, Nat.sub_zero]
        · rw [A8]; exact bn_nI (by omega) (by omega)
      · have g := hTI k (by omega)
        unfold TI at *
        rw [gW_n e, A6 _ _ (by decide), alA 14 k _ _ (Or.inr (Or.inr e)) (Or.inl (by decide)) (Or.inl (by decide)), alA 14 k _ _ (Or.inr (Or.inr e)) (Or.inl (by decide)) (Or.inl (by decide)), alA 15 k _ _ (Or.inr (Or.inr e)) (Or.inl (by decide)) (Or.inl (by decide)), alA 15 k _ _ (Or.inr (Or.inr e)) (Or.inl (by decide)) (Or.inl (by decide))]; exact g
    · have g := hTS u hu
      unfold TS at *
      rw [A6 _ _ (by decide), alA 7 _ _ _ (Or.inl (by decide)) (Or.inl (by decide)) (Or.inl (by decide)), alA 7 _ _ _ (Or.inl (by decide)) (Or.inl (by decide)) (Or.inl (by decide)), b5]; exact g
    · rw [alA 0 _ _ _ (Or.inl (by decide)) (Or.inr (by decide)) (Or.inl (by decide))]; exact hnow
    · unfold OQ pr at *
      simp only [A6 _ 3 (by decide)]; exact hOQ
  have hCA : hC A = hC I := hC_cg A4
  refine LI.join h2 hca (HG.cg A4 A5 A1 hG) (fun k hk => ?_) (by rw [hCA]; exact hN)
  have hk' : k < gT p + 1 := hk
  by_cases e : k = gT p
  · subst e
    right
    have c11 : A (14, gT p, 0) 11 = nI (hC I) := by rw [A14 11 (by decide) (by decide), o11]; exact hG.1
    have hCb : hC I < 2 ^ 31 := by
      obtain ⟨-, -, w⟩ := bn_tn hW.1.2.2.2.2.2.2.2.2 (by decide)
      unfold hC; omega
    have t11 : tn (A (14, gT p, 0) 11) = hC I := by rw [c11]; exact tn_of hCb
    have t10 : tn (A (14, gT p, 0) 10) = t := by rw [A10]; exact tn_of (by omega)
    have eNd : hNd A = hNd I := by funext k; unfold hNd; rw [A5]
    have eVl : hVl A = hVl I := by funext k; unfold hVl; rw [A5]
    have hv := hG.2.2 nd hnd
    refine ⟨by rw [t11, c11], by rw [t11, hCA]; exact Nat.le_refl _, by rw [t10]; exact Nat.le_refl _, fun q w1 w2 => by rw [t11] at w1; rw [hCA] at w2; omega, ?_⟩
    have e14 : tn (A (14, gT p, 0) 2) = nd := by rw [A14 2 (by decide) (by decide), p14 2 (by decide) (by decide), f2, e2]; exact tn_of (by omega)
    unfold hR_ FIN
    rw [t11, hCA, Nat.sub_self, hst, t10, e14, eNd, eVl, A8, A9, hv]
    refine ⟨fun w => absurd w.1 (Nat.lt_irrefl _), fun _ => ⟨tn_of (by decide), ?_⟩⟩
    have : vbf (hNd I) (hVl I) nd (hC I) ≤ 1000 := vbf_le _ (fun k hk => (hG.2.1 k hk).2.2.2.2.1)
    exact tn_of (by omega)
  · have g := hH k (by omega)
    unfold HI at *
    rw [gW_n e, A6 _ _ (by decide)]
    have a14 : ∀ j, A (14, k, 0) j = I (14, k, 0) j := fun j => alA 14 k _ _ (Or.inr (Or.inr e)) (Or.inl (by decide)) (Or.inl (by decide))
    have a15 : A (15, k, 0) 0 = I (15, k, 0) 0 := alA 15 k _ _ (Or.inr (Or.inr e)) (Or.inl (by decide)) (Or.inl (by decide))
    unfold hR_ hC hTk hNd hVl at *
    simp only [A4, A5, a14, a15]; exact g
end
