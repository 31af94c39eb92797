/-! open: what holds behind it. -/
theorem OQ_ws {p : PP} {I I' : IF} {O : Nat → Nat} {k4 : Nat} (hOQ : OQ p I) (fO : opF p I O k4) (hs : pr I' (gS p) = k4) (hu : ∀ u, u < gS p → pr I' u = pr I u) : OQ (wS p O) I' := by
  obtain ⟨pos, a1, a2, a3⟩ := hOQ
  obtain ⟨x, x1, x2, x3, x4⟩ := fO
  have cut : ∀ v, v < gS p → (pos v < x ↔ ¬ pr I v < k4) := by
    intro v hv
    obtain ⟨b1, b2⟩ := a1 v hv
    constructor
    · intro g
      rcases x4 with x4 | x4
      · omega
      · obtain ⟨c1, c2⟩ := a2 (x - 1) (by omega)
        by_cases e : pos v = x - 1
        · rw [← e, b2] at x4; exact x4
        · have := (a3 v (gO p (x - 1)) hv c1).mp (by omega)
          have x4' : ¬ pr I (gO p (x - 1)) < k4 := x4
          omega
    · intro g
      by_cases w : pos v < x
      · exact w
      · have := x3 (pos v) (by omega) b1
        rw [b2] at this
        exact absurd this g
  refine ⟨fun u => if u = gS p then x else if pos u < x then pos u else pos u + 1, fun s h => ?_, fun t h => ?_, fun u v h1 h2 => ?_⟩
  · have h' : s < gS p + 1 := h
    show (if s = gS p then x else if pos s < x then pos s else pos s + 1) < gS p + 1 ∧ O (if s = gS p then x else if pos s < x then pos s else pos s + 1) = s
    by_cases e : s = gS p
    · rw [if_pos e, x2 x, if_neg (by omega), if_pos rfl]; exact ⟨by omega, e.symm⟩
    · obtain ⟨b1, b2⟩ := a1 s (by omega)
      rw [if_neg e]
      by_cases g : pos s < x
      · rw [if_pos g, x2, if_pos g]; exact ⟨by omega, b2⟩
      · rw [if_neg g, x2, if_neg (by omega), if_neg (by omega)]; exact ⟨by omega, b2⟩
  · have h' : t < gS p + 1 := h
    show O t < gS p + 1 ∧ (if O t = gS p then x else if pos (O t) < x then pos (O t) else pos (O t) + 1) = t
    by_cases g : t < x
    · obtain ⟨b1, b2⟩ := a2 t (by omega)
      have e : O t = gO p t := by rw [x2, if_pos g]
      rw [e, if_neg (by omega), b2, if_pos g]; exact ⟨by omega, rfl⟩
    · by_cases w : t = x
      · have e : O t = gS p := by rw [x2, if_neg g, if_pos w]
        rw [e, if_pos rfl]; exact ⟨by omega, w.symm⟩
      · obtain ⟨b1, b2⟩ := a2 (t - 1) (by omega)
        have e : O t = gO p (t - 1) := by rw [x2, if_neg g, if_neg w]
        rw [e, if_neg (by omega), b2, if_neg (by omega)]; exact ⟨by omega, by omega⟩
  · have h1' : u < gS p + 1 := h1
    have h2' : v < gS p + 1 := h2
    show (if u = gS p then x else if pos u < x then pos u else pos u + 1) < (if v = gS p then x else if pos v < x then pos v else pos v + 1) ↔ _
    by_cases eu : u = gS p
    · by_cases ev : v = gS p
      · subst eu; rw [ev]; omega
      · rw [if_pos eu, if_neg ev, eu, hs, hu v (by omega)]
        have := cut v (by omega)
        by_cases g : pos v < x
        · rw [if_pos g]; omega
        · rw [if_neg g]; omega
    · by_cases ev : v = gS p
      · rw [if_neg eu, if_pos ev, ev, hs, hu u (by omega)]
        have := cut u (by omega)
        by_cases g : pos u < x
        · rw [if_pos g]; omega
        · rw [if_neg g]; omega
      · rw [if_neg eu, if_neg ev, hu u (by omega), hu v (by omega)]
        have := a3 u v (by omega) (by omega)
        by_cases g : pos u < x
        · rw [if_pos g]
          by_cases g2 : pos v < x
          · rw [if_pos g2]; exact this
          · rw [if_neg g2, ← this]; omega
        · rw [if_neg g]
          by_cases g2 : pos v < x
          · rw [if_pos g2, ← this]; omega
          · rw [if_neg g2, ← this]; omega
section
variable {N : Nat} {p : PP} {I : IF} {J : JF} {R : Int32 → Int32 → PH → Prop}
set_option maxHeartbeats 4000000 in
theorem open_LI (h : LI N p I) {p1 p2 p3 p4 p5 : Int32} {O : Nat → Nat} {I' b : IF} (hrg : bn p1 1 20 ∧ bn p2 1 10 ∧ bn p3 1 30 ∧ bn p4 0 9 ∧ bn p5 1 10) (w4 : gS p < 4) (fO : opF p I O (tn p4)) (fI : opI I I' (gS p) p1 p2 p3 p4 p5) (b4 : b (21, 4, 0) (gS p) = 1) (b5 : b (21, 5, 0) (gS p) = I' (20, 0, 0) 1) (b6 : b (21, 6, 0) (gS p) = p1) (b7 : b (21, 7, 0) (gS p) = p2) (b8 : b (21, 8, 0) (gS p) = p3) (b9 : b (21, 9, 0) (gS p) = p4) (b10 : b (21, 10, 0) (gS p) = p5) (b3 : b (20, 0, 0) 3 = nI (gS p + 1)) (bf : ∀ n j, ¬ (n = (20, 0, 0) ∧ (j = 0 ∨ j = 3)) → ¬ (n.1 = 21 ∧ 4 ≤ n.2.1 ∧ n.2.1 ≤ 10 ∧ j = gS p) → b n j = I' n j) : LI N (wS p O) b := by
  obtain ⟨t, hIV, hG, hH, hN⟩ := h
  obtain ⟨hW, hM, hTI, hSN, hTS, hnow, hOQ, h5⟩ := hIV
  obtain ⟨⟨f7, f8, f9, f10, f11, f12, f13, f1, f2, f3, f4⟩, ⟨t0, t1⟩, fc, ff⟩ := fI
  have al : ∀ r k z j, (r < 6 ∨ 9 < r ∨ k ≠ gS p) → (r ≠ 0 ∨ j ≠ 5) → I' (r, k, z) j = I (r, k, z) j := fun r k z j g1 g2 => ff _ j (fun q => by simp only [Prod.mk.injEq] at q; omega) (fun q => by simp only [Prod.mk.injEq] at q; omega) (fun q => by simp only [Prod.mk.injEq] at q; omega) (fun q => by simp only [Prod.mk.injEq] at q; omega) (fun q => by have := q.1; simp only [Prod.mk.injEq] at this; omega)
  have hca : CA I' b := fun n j hn => bf n j (fun q => by rw [q.1] at hn; exact absurd hn (by simp)) (fun q => by omega)
  have bl : ∀ k j, (k < 4 ∨ 10 < k ∨ j ≠ gS p) → b (21, k, 0) j = I (21, k, 0) j := fun k j g => by
    rw [bf _ j (by simp) (fun q => by have := q.2; simp only at this; omega)]; exact al 21 _ _ _ (Or.inr (Or.inl (by omega))) (Or.inl (by omega))
  have b20 : ∀ j, j ≠ 0 → j ≠ 3 → b (20, 0, 0) j = I (20, 0, 0) j := fun j g1 g2 => by
    rw [bf _ j (fun q => by omega) (by simp)]; exact al 20 _ _ _ (Or.inr (Or.inl (by omega))) (Or.inl (by omega))
  have gm0 : gM (wS p O) (gS p) = 0 := if_pos rfl
  have gmn : ∀ u, u ≠ gS p → gM (wS p O) u = gM p u := fun u g => if_neg g
  have a6 : ∀ u j, u ≠ gS p → I' (6, u, 0) j = I (6, u, 0) j := fun u j g => al 6 _ _ _ (Or.inr (Or.inr g)) (Or.inl (by omega))
  have a7 : ∀ u j, u ≠ gS p → I' (7, u, 0) j = I (7, u, 0) j := fun u j g => al 7 _ _ _ (Or.inr (Or.inr g)) (Or.inl (by omega))
  have ah : ∀ r k z j, 9 < r → I' (r, k, z) j = I (r, k, z) j := fun r k z j g => al r _ _ _ (Or.inr (Or.inl g)) (Or.inl (by omega))
  have a0 : ∀ j, j ≠ 5 → I' (0, 0, 0) j = I (0, 0, 0) j := fun j g => al 0 _ _ _ (Or.inl (by omega)) (Or.inr g)
  have a1 : ∀ j, I' (1, 0, 0) j = I (1, 0, 0) j := fun j => al 1 _ _ _ (Or.inl (by omega)) (Or.inl (by omega))
  have a4 : ∀ j, I' (4, 0, 0) j = I (4, 0, 0) j := fun j => al 4 _ _ _ (Or.inl (by omega)) (Or.inl (by omega))
  have a5 : ∀ k j, I' (5, k, 0) j = I (5, k, 0) j := fun k j => al 5 _ _ _ (Or.inl (by omega)) (Or.inl (by omega))
  have own : ∀ i, i < gT p → gW p i ≠ gS p := fun i hi => by have := hW.1.2.2.2.2.2.1 i hi; omega
  have hW1 : WF (wS p O) I' := by
    obtain ⟨w1, w2, w3⟩ := hW
    refine ⟨?_, fun i hi => ?_, fun u hu => ?_⟩
    · obtain ⟨c1, c2, c3, c4, c5, c6, c7, c8, c9⟩ := w1
      refine ⟨fc, (show gS p + 1 ≤ 4 by omega), by rw [a0 6 (by decide)]; exact c3, c4, fun k hk => by rw [a1]; exact c5 k hk, fun i hi => ?_, by rw [a0 7 (by decide)]; exact c7, by rw [a0 8 (by decide)]; exact c8, by rw [a4]; exact c9⟩
      have := c6 i hi
      show gW p i < gS p + 1
      omega
    · have g := w2 i hi
      unfold IS at *
      simp only [ah 14 _ _ _ (by decide), ah 15 _ _ _ (by decide), ah 16 _ _ _ (by decide), ah 18 _ _ _ (by decide)]; exact g
    · have hu' : u < gS p + 1 := hu
      by_cases e : u = gS p
      · subst e
        refine ⟨by rw [f7]; exact Or.inr rfl, by rw [t0]; exact hrg.1, by rw [f3]; exact hrg.2.2.2.1, by rw [f4]; exact hrg.2.2.2.2, ?_, ?_, ?_, ?_, ?_, ?_, ?_⟩
        · rw [f8, show cnt (gW (wS p O)) (gS p) (gT (wS p O)) = 0 from cnt_no own]; rfl
        · rw [f9]; exact bn_nI (k := 0) (by omega) (by omega)
        · rw [gm0]; omega
        · rw [gm0]; intro q hq; omega
        · rw [gm0]; intro q hq; omega
        · rw [gm0]; intro q r hq; omega
        · rw [gm0]; intro q hq; omega
      · have g := w3 u (by omega)
        unfold SS at *
        rw [gmn u e]
        simp only [a6 u _ e, a7 u _ e, ah 10 _ _ _ (by decide), ah 13 _ _ _ (by decide)]; exact g
  have hX : MX (wS p O) I' b := by
    obtain ⟨h1, h2, h3, z1, z2, z3, z4⟩ := hM
    refine ⟨?_, fun u hu => ⟨?_, ?_⟩, fun i hi => ?_, ?_, ?_, ?_, ?_⟩
    · obtain ⟨m1, m2, m3, m4, m5⟩ := h1
      refine ⟨?_, ?_, ?_, ?_, fun k hk => ?_⟩
      · rw [b20 1 (by decide) (by decide), a0 8 (by decide)]; exact m1
      · rw [b20 35 (by decide) (by decide), a0 7 (by decide)]; exact m2
      · rw [b3, fc]
      · rw [b20 15 (by decide) (by decide), a0 6 (by decide)]; exact m4
      · rw [bl 2 _ (Or.inl (by decide)), a1]; exact m5 k hk
    · have hu' : u < gS p + 1 := hu
      by_cases e : u = gS p
      · subst e
        refine ⟨by rw [b4, f7], by rw [b6, t0], by rw [b7, f1], by rw [b8, f2], by rw [b9, f3], by rw [b10, f4], ?_, ?_, ?_, ?_⟩
        · rw [bl 11 _ (Or.inr (Or.inl (by decide))), f12]; exact z1 11 _ (by decide) (by decide) (Nat.le_refl _) w4
        · rw [bl 12 _ (Or.inr (Or.inl (by decide))), f13]; exact z1 12 _ (by decide) (by decide) (Nat.le_refl _) w4
        · rw [bl 13 _ (Or.inr (Or.inl (by decide))), f10]; exact z1 13 _ (by decide) (by decide) (Nat.le_refl _) w4
        · rw [bl 14 _ (Or.inr (Or.inl (by decide))), f11]; exact z1 14 _ (by decide) (by decide) (Nat.le_refl _) w4
      · have g := (h2 u (by omega)).1
        unfold MS at *
        simp only [a6 u _ e, a7 u _ e, bl _ u (Or.inr (Or.inr e))]; exact g
    · have hu' : u < gS p + 1 := hu
      by_cases e : u = gS p
      · subst e
        have k0 : tn (I' (6, gS p, 0) 9) = 0 := by rw [f9]; rfl
        unfold MM
        rw [k0]
        refine ⟨fun q hq => by omega, fun k hk => Or.inl ?_, fun k l hk hl g => absurd ?_ g⟩
        · rw [bl 30 _ (Or.inr (Or.inl (by decide)))]; exact z2 _ k (Nat.le_refl _) w4 hk
        · rw [bl 30 _ (Or.inr (Or.inl (by decide)))]; exact z2 _ k (Nat.le_refl _) w4 hk
      · have g := (h2 u (by omega)).2
        unfold MM at *
        simp only [a6 u _ e, ah 10 _ _ _ (by decide), ah 11 _ _ _ (by decide), ah 12 _ _ _ (by decide), ah 13 _ _ _ (by decide), bl 30 _ (Or.inr (Or.inl (by decide))), bl 31 _ (Or.inr (Or.inl (by decide))), bl 32 _ (Or.inr (Or.inl (by decide))), bl 33 _ (Or.inr (Or.inl (by decide))), bl 34 _ (Or.inr (Or.inl (by decide)))]; exact g
    · have g := h3 i hi
      unfold MI at *
      simp only [ah 14 _ _ _ (by decide), ah 15 _ _ _ (by decide), ah 16 _ _ _ (by decide), ah 17 _ _ _ (by decide), ah 18 _ _ _ (by decide), bl 16 _ (Or.inr (Or.inl (by decide))), bl 17 _ (Or.inr (Or.inl (by decide))), bl 18 _ (Or.inr (Or.inl (by decide))), bl 19 _ (Or.inr (Or.inl (by decide))), bl 20 _ (Or.inr (Or.inl (by decide))), bl 21 _ (Or.inr (Or.inl (by decide))), bl 22 _ (Or.inr (Or.inl (by decide))), bl 23 _ (Or.inr (Or.inl (by decide))), bl 24 _ (Or.inr (Or.inl (by decide))), bl 25 _ (Or.inr (Or.inl (by decide))), bl 26 _ (Or.inr (Or.inl (by decide))), bl 27 _ (Or.inr (Or.inl (by decide))), bl 28 _ (Or.inr (Or.inl (by decide))), bl 29 _ (Or.inr (Or.inl (by decide)))]; exact g
    · intro k s g1 g2 g3 g4
      have g3' : gS p + 1 ≤ s := g3
      rw [bl k _ (Or.inr (Or.inr (by omega)))]; exact z1 k s g1 g2 (by omega) g4
    · intro u l g1 g2 g3
      have g1' : gS p + 1 ≤ u := g1
      rw [bl 30 _ (Or.inr (Or.inl (by decide)))]; exact z2 u l (by omega) g2 g3
    · intro k j g1 g2 g3 g4; rw [bl k _ (Or.inr (Or.inl (by omega)))]; exact z3 k j g1 g2 g3 g4
    · intro j k g1 g2 g3; rw [bl 28 _ (Or.inr (Or.inl (by decide))), bl 29 _ (Or.inr (Or.inl (by decide)))]; exact z4 j k g1 g2 g3
  have h2 : IV (wS p O) I' b t := by
    refine ⟨hW1, hX, fun i hi => ?_, fun u hu => ?_, fun u hu => ?_, ?_, ?_, h5⟩
    · have g := hTI i hi
      have e := own i hi
      unfold TI at *
      show I' (6, gW p i, 0) 7 = 0 ∨ _
      simp only [a6 (gW p i) _ e, ah 14 _ _ _ (by decide), ah 15 _ _ _ (by decide)]; exact g
    · have hu' : u < gS p + 1 := hu
      by_cases e : u = gS p
      · subst e
        have k0 : tn (I' (6, gS p, 0) 9) = 0 := by rw [f9]; rfl
        refine ⟨0, fun _ => 0, by rw [f10]; rfl, Nat.zero_le _, ?_, ?_⟩
        · rw [k0]; intro q hq; omega
        · rw [k0]; intro q r _ hq; omega
      · exact SN.cg rfl (a6 u _ e) (a6 u _ e) (fun o => ah 10 _ _ _ (by decide)) (hSN u (by omega))
    · have hu' : u < gS p + 1 := hu
      by_cases e : u = gS p
      · subst e
        right
        obtain ⟨k, k1, k2, k3⟩ := hrg.1
        refine ⟨k, t, by rw [t0]; exact k3, k1, k2, ?_, Nat.le_refl _, ?_⟩
        · rw [b5, ah 20 _ _ _ (by decide), hM.1.1]; exact hnow
        · rw [t1, k3, Nat.sub_self, Nat.zero_mod, Nat.sub_zero]
      · have g := hTS u (by omega)
        unfold TS at *
        simp only [a6 u _ e, a7 u _ e, bl 5 u (Or.inr (Or.inr e))]; exact g
    · rw [a0 8 (by decide)]; exact hnow
    · refine OQ_ws hOQ fO ?_ (fun u hu => ?_)
      · unfold pr; rw [f3]
      · unfold pr; rw [a6 u _ (by omega)]
  exact LI.join h2 hca (HG.cg a4 a5 a1 hG) (fun i hi => HI.cg rfl (Or.inr (a6 _ _ (own i hi))) a4 a5 (fun j => ah 14 _ _ _ (by decide)) (ah 15 _ _ _ (by decide)) (hH i hi)) (by rw [hC_cg a4]; exact hN)
theorem nAS : ¬ xIA = xIS := by decide
theorem nSA : ¬ xIS = xIA := by decide
end
