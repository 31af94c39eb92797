/-! acknowledge: the call. -/
theorem fg_lt' {π : Nat → Nat} {pl K m q : Nat} (h : ∀ q, q < m → π q < m) (hK : K ≤ m) (h0 : pl < K) (hq : q < m) : fgP π pl K q < m := by
  unfold fgP; split
  · exact h pl (by omega)
  · exact shP_lt h hK hq
def ixP (q r : Nat) : Nat := if q ≤ r then r + 1 else r
theorem fg_ix {π : Nat → Nat} {q K r : Nat} (h : r + 1 < K) : fgP π q K r = π (ixP q r) := by
  unfold fgP shP ixP
  rw [if_neg (by omega)]
  by_cases g : q ≤ r
  · rw [if_pos ⟨g, h⟩, if_pos g]
  · rw [if_neg (fun w => g w.1), if_neg g]
theorem ix_lt {q r K : Nat} (h : r + 1 < K) : ixP q r < K ∧ ixP q r ≠ q := by
  unfold ixP; split <;> omega
theorem ix_mono {q r u : Nat} (h : r < u) : ixP q r < ixP q u := by
  unfold ixP; split <;> split <;> omega
theorem ix_of {q r K : Nat} (h : r < K) (g : r ≠ q) (hq : q < K) : ∃ u, u + 1 < K ∧ ixP q u = r := by
  by_cases w : r < q
  · exact ⟨r, by omega, by unfold ixP; rw [if_neg (by omega)]⟩
  · exact ⟨r - 1, by omega, by unfold ixP; rw [if_pos (by omega)]; omega⟩
theorem tn_of {n : Nat} (h : n < 2 ^ 31) : tn (nI n) = n := nI_clamp h
section
variable {N : Nat} {p : PP} {I : IF} {J : JF} {R : Int32 → Int32 → PH → Prop}
theorem ack_LI (h : LI N p I) {s q k K : Nat} (hs : s < gS p) (hKe : tn (I (6, s, 0) 9) = K) (hq : q < K) (hk : k < 5) (ek : I (21, 30, 0) (5 * s + k) = I (10, s, gP p s q) 3) (uk : ∀ l, l < 5 → I (21, 30, 0) (5 * s + l) = I (10, s, gP p s q) 3 → l = k) : LI N (setM p s (gM p s) (fgP (gP p s) q K)) (up (up (up I (6, s, 0) 9 (nI (K - 1))) (20, 0, 0) 0 0) (21, 30, 0) (5 * s + k) 0) := by
  obtain ⟨t, hIV, hG, hH, hN⟩ := h
  obtain ⟨hW, hM, hTI, hSN, hTS, hnow, hOQ, h5⟩ := hIV
  have h4 := hW.1.2.1
  have hSS := hW.2.2 s hs
  obtain ⟨hk9, -, hkm⟩ := bn_tn hSS.2.2.2.2.2.1 (by have := hSS.2.2.2.2.2.2.1; omega)
  have hm5 := hSS.2.2.2.2.2.2.1
  rw [hKe] at hk9 hkm
  have hMM := (hM.2.1 s hs).2
  have hsn := hSN s hs
  have uq : ∀ r u, r < K → u < K → I (10, s, gP p s r) 3 = I (10, s, gP p s u) 3 → r = u := fun r u h1 h2 e => uq_of (B := 4 * t) (by omega) hsn (by rw [hKe]; exact h1) (by rw [hKe]; exact h2) e
  have uo : ∀ r k z j, (r ≠ 6 ∨ k ≠ s ∨ j ≠ 9) → up I (6, s, 0) 9 (nI (K - 1)) (r, k, z) j = I (r, k, z) j := fun r k z j g => up_ne (fun q => by have := q.1; simp only [Prod.mk.injEq] at this; have := q.2; omega)
  have u9 : up I (6, s, 0) 9 (nI (K - 1)) (6, s, 0) 9 = nI (K - 1) := up_same _ _ _ _
  generalize hI1 : up I (6, s, 0) 9 (nI (K - 1)) = I1 at uo u9 ⊢
  have bo : ∀ k' j, (k' ≠ 30 ∨ j ≠ 5 * s + k) → up (up I1 (20, 0, 0) 0 0) (21, 30, 0) (5 * s + k) 0 (21, k', 0) j = I (21, k', 0) j := fun k' j g => by
    rw [up_ne (fun q => by have := q.1; simp only [Prod.mk.injEq] at this; have := q.2; omega), up_ne (by simp), uo 21 _ _ _ (Or.inl (by decide))]
  have bk : up (up I1 (20, 0, 0) 0 0) (21, 30, 0) (5 * s + k) 0 (21, 30, 0) (5 * s + k) = 0 := up_same _ _ _ _
  have b20 : ∀ j, j ≠ 0 → up (up I1 (20, 0, 0) 0 0) (21, 30, 0) (5 * s + k) 0 (20, 0, 0) j = I (20, 0, 0) j := fun j g => by
    rw [up_ne (by simp), up_nj g, uo 20 _ _ _ (Or.inl (by decide))]
  have hca : CA I1 (up (up I1 (20, 0, 0) 0 0) (21, 30, 0) (5 * s + k) 0) := fun n j hn => by
    rw [up_ne (fun q => by rw [q.1] at hn; exact absurd hn (by simp)), up_ne (fun q => by rw [q.1] at hn; exact absurd hn (by simp))]
  generalize up (up I1 (20, 0, 0) 0 0) (21, 30, 0) (5 * s + k) 0 = b at bo bk b20 hca ⊢
  have gPn : ∀ r, r + 1 < K → gP (setM p s (gM p s) (fgP (gP p s) q K)) s r = gP p s (ixP q r) := fun r hr => by rw [gP_s, fg_ix hr]
  -- the shape
  have hW1 : WF (setM p s (gM p s) (fgP (gP p s) q K)) I1 := by
    obtain ⟨w1, w2, w3⟩ := hW
    refine ⟨?_, fun i hi => ?_, fun u hu => ?_⟩
    · unfold W1 at *
      simp only [uo 0 _ _ _ (Or.inl (show 0 ≠ 6 by decide)), uo 1 _ _ _ (Or.inl (show 1 ≠ 6 by decide)), uo 4 _ _ _ (Or.inl (show 4 ≠ 6 by decide))]; exact w1
    · have g := w2 i hi
      unfold IS at *
      simp only [uo 14 _ _ _ (Or.inl (show 14 ≠ 6 by decide)), uo 15 _ _ _ (Or.inl (show 15 ≠ 6 by decide)), uo 16 _ _ _ (Or.inl (show 16 ≠ 6 by decide)), uo 18 _ _ _ (Or.inl (show 18 ≠ 6 by decide))]; exact g
    · by_cases e : u = s
      · subst e
        obtain ⟨g1, g2, g3, g4, g5, g6, g7, g8, g9, g10, g11⟩ := w3 u hu
        refine ⟨by rw [uo _ _ _ _ (Or.inr (Or.inr (by decide)))]; exact g1, by rw [uo _ _ _ _ (Or.inl (by decide))]; exact g2, by rw [uo _ _ _ _ (Or.inr (Or.inr (by decide)))]; exact g3, by rw [uo _ _ _ _ (Or.inr (Or.inr (by decide)))]; exact g4, by rw [uo _ _ _ _ (Or.inr (Or.inr (by decide)))]; exact g5, ?_, by rw [gM_s]; exact g7, ?_, ?_, ?_, ?_⟩
        · rw [u9, gM_s]; exact bn_nI (by omega) (by omega)
        · rw [gM_s]; intro r hr; rw [gP_s]; exact fg_lt' g8 hkm hq hr
        · rw [gM_s]; intro o ho; rw [uo _ _ _ _ (Or.inl (by decide))]; exact g9 o ho
        · rw [gM_s]; intro r v hr hv; rw [gP_s, gP_s]; exact fg_inj g10 hkm hq r v hr hv
        · rw [gM_s]; intro o ho j; rw [uo _ _ _ _ (Or.inl (by decide))]; exact g11 o ho j
      · have g := w3 u hu
        unfold SS at *
        rw [gM_n e, gP_n e]
        simp only [uo 6 u _ _ (Or.inr (Or.inl e)), uo 7 _ _ _ (Or.inl (show 7 ≠ 6 by decide)), uo 10 _ _ _ (Or.inl (show 10 ≠ 6 by decide)), uo 13 _ _ _ (Or.inl (show 13 ≠ 6 by decide))]; exact g
  -- what ties the halves
  have hX : MX (setM p s (gM p s) (fgP (gP p s) q K)) I1 b := by
    obtain ⟨h1, h2, h3, z1, z2, z3, z4⟩ := hM
    refine ⟨?_, fun u hu => ⟨?_, ?_⟩, fun i hi => ?_, ?_, ?_, ?_, ?_⟩
    · unfold MG at *
      rw [b20 1 (by decide), b20 35 (by decide), b20 3 (by decide), b20 15 (by decide)]
      simp only [uo 0 _ _ _ (Or.inl (show 0 ≠ 6 by decide)), uo 1 _ _ _ (Or.inl (show 1 ≠ 6 by decide)), bo 2 _ (Or.inl (by decide))]; exact h1
    · have g := (h2 u hu).1
      unfold MS at *
      simp only [bo 4 _ (Or.inl (by decide)), bo 6 _ (Or.inl (by decide)), bo 7 _ (Or.inl (by decide)), bo 8 _ (Or.inl (by decide)), bo 9 _ (Or.inl (by decide)), bo 10 _ (Or.inl (by decide)), bo 11 _ (Or.inl (by decide)), bo 12 _ (Or.inl (by decide)), bo 13 _ (Or.inl (by decide)), bo 14 _ (Or.inl (by decide)), uo 7 _ _ _ (Or.inl (show 7 ≠ 6 by decide)), uo 6 _ _ 7 (Or.inr (Or.inr (by decide))), uo 6 _ _ 1 (Or.inr (Or.inr (by decide))), uo 6 _ _ 2 (Or.inr (Or.inr (by decide))), uo 6 _ _ 3 (Or.inr (Or.inr (by decide))), uo 6 _ _ 4 (Or.inr (Or.inr (by decide))), uo 6 _ _ 12 (Or.inr (Or.inr (by decide))), uo 6 _ _ 13 (Or.inr (Or.inr (by decide))), uo 6 _ _ 10 (Or.inr (Or.inr (by decide))), uo 6 _ _ 11 (Or.inr (Or.inr (by decide)))]; exact g
    · have a10 : ∀ k z j, I1 (10, k, z) j = I (10, k, z) j := fun k z j => uo 10 _ _ _ (Or.inl (by decide))
      have a11 : ∀ k z j, I1 (11, k, z) j = I (11, k, z) j := fun k z j => uo 11 _ _ _ (Or.inl (by decide))
      have a12 : ∀ k z j, I1 (12, k, z) j = I (12, k, z) j := fun k z j => uo 12 _ _ _ (Or.inl (by decide))
      have a13 : ∀ k z j, I1 (13, k, z) j = I (13, k, z) j := fun k z j => uo 13 _ _ _ (Or.inl (by decide))
      by_cases e : u = s
      · subst e
        obtain ⟨m1, m2, m3⟩ := hMM
        rw [hKe] at m1 m2
        unfold MM
        rw [u9, tn_of (by omega)]
        simp only [a10, a11, a12, a13, bo 31 _ (Or.inl (by decide)), bo 32 _ (Or.inl (by decide)), bo 33 _ (Or.inl (by decide)), bo 34 _ (Or.inl (by decide))]
        refine ⟨fun r hr => ?_, fun l hl => ?_, fun l v hl hv e1 e2 => ?_⟩
        · have hr' : r + 1 < K := by omega
          obtain ⟨i1, i2⟩ := ix_lt (q := q) hr'
          obtain ⟨l, l1, l2, l3⟩ := m1 (ixP q r) i1
          rw [gPn r hr']
          refine ⟨l, l1, ?_, l3⟩
          rw [bo 30 _ (Or.inr (fun w => i2 ?_))]; exact l2
          have : l = k := by omega
          subst this
          exact uq _ _ i1 hq (by rw [← l2, ek])
        · by_cases w : l = k
          · subst w; exact Or.inl bk
          · rw [bo 30 _ (Or.inr (by omega))]
            rcases m2 l hl with g | ⟨r, g1, g2⟩
            · exact Or.inl g
            · have hrq : r ≠ q := fun z => w (uk l hl (by rw [g2, z]))
              obtain ⟨x, x1, x2⟩ := ix_of g1 hrq hq
              exact Or.inr ⟨x, by omega, by rw [gPn x x1, x2]; exact g2⟩
        · have n1 : l ≠ k := fun w => e1 (by rw [w]; exact bk)
          rw [bo 30 _ (Or.inr (by omega))] at e1 e2
          have n2 : v ≠ k := fun w => e1 (by rw [e2, w]; exact bk)
          rw [bo 30 _ (Or.inr (by omega))] at e2
          exact m3 l v hl hv e1 e2
      · have g := (h2 u hu).2
        have b30 : ∀ l, l < 5 → b (21, 30, 0) (5 * u + l) = I (21, 30, 0) (5 * u + l) := fun l hl => bo 30 _ (Or.inr (by omega))
        obtain ⟨m1, m2, m3⟩ := g
        unfold MM
        rw [gP_n e]
        simp only [uo 6 u _ _ (Or.inr (Or.inl e)), a10, a11, a12, a13, bo 31 _ (Or.inl (by decide)), bo 32 _ (Or.inl (by decide)), bo 33 _ (Or.inl (by decide)), bo 34 _ (Or.inl (by decide))]
        refine ⟨fun r hr => ?_, fun l hl => ?_, fun l v hl hv e1 e2 => ?_⟩
        · obtain ⟨l, l1, l2, l3⟩ := m1 r hr
          exact ⟨l, l1, by rw [b30 l l1]; exact l2, l3⟩
        · rw [b30 l hl]; exact m2 l hl
        · rw [b30 l hl] at e1 e2; rw [b30 v hv] at e2; exact m3 l v hl hv e1 e2
    · have g := h3 i hi
      unfold MI at *
      simp only [bo 16 _ (Or.inl (by decide)), bo 17 _ (Or.inl (by decide)), bo 18 _ (Or.inl (by decide)), bo 19 _ (Or.inl (by decide)), bo 20 _ (Or.inl (by decide)), bo 21 _ (Or.inl (by decide)), bo 22 _ (Or.inl (by decide)), bo 23 _ (Or.inl (by decide)), bo 24 _ (Or.inl (by decide)), bo 25 _ (Or.inl (by decide)), bo 26 _ (Or.inl (by decide)), bo 27 _ (Or.inl (by decide)), bo 28 _ (Or.inl (by decide)), bo 29 _ (Or.inl (by decide)), uo 14 _ _ _ (Or.inl (show 14 ≠ 6 by decide)), uo 15 _ _ _ (Or.inl (show 15 ≠ 6 by decide)), uo 16 _ _ _ (Or.inl (show 16 ≠ 6 by decide)), uo 17 _ _ _ (Or.inl (show 17 ≠ 6 by decide)), uo 18 _ _ _ (Or.inl (show 18 ≠ 6 by decide))]; exact g
    · intro k s g1 g2 g3 g4; rw [bo k _ (Or.inl (by omega))]; exact z1 k s g1 g2 g3 g4
    · intro u l g1 g2 g3
      have g1' : gS p ≤ u := g1
      rw [bo 30 _ (Or.inr (by omega))]; exact z2 u l g1 g2 g3
    · intro k j g1 g2 g3 g4; rw [bo k _ (Or.inl (by omega))]; exact z3 k j g1 g2 g3 g4
    · intro j k g1 g2 g3; rw [bo 28 _ (Or.inl (by decide)), bo 29 _ (Or.inl (by decide))]; exact z4 j k g1 g2 g3
  have h2 : IV (setM p s (gM p s) (fgP (gP p s) q K)) I1 b t := by
    refine ⟨hW1, hX, fun i hi => ?_, fun u hu => ?_, fun u hu => ?_, ?_, ?_, h5⟩
    · have := hTI i hi
      unfold TI at *
      simp only [uo 6 _ _ 7 (Or.inr (Or.inr (by decide))), uo 14 _ _ _ (Or.inl (show 14 ≠ 6 by decide)), uo 15 _ _ _ (Or.inl (show 15 ≠ 6 by decide))]; exact this
    · by_cases e : u = s
      · subst e
        obtain ⟨ln, y, n1, n2, n3, n4⟩ := hsn
        rw [hKe] at n3 n4
        refine ⟨ln, fun r => y (ixP q r), by rw [uo 6 _ _ _ (Or.inr (Or.inr (by decide)))]; exact n1, n2, ?_, ?_⟩
        · rw [u9, tn_of (by omega)]
          intro r hr
          rw [gPn r (by omega), uo 10 _ _ _ (Or.inl (by decide))]
          exact n3 _ (ix_lt (by omega)).1
        · rw [u9, tn_of (by omega)]
          intro r v h1 h2
          exact n4 _ _ (ix_mono h1) (ix_lt (by omega)).1
      · exact SN.cg (gP_n e) (uo 6 _ _ _ (Or.inr (Or.inl e))) (uo 6 _ _ _ (Or.inr (Or.inl e))) (fun o => uo 10 _ _ _ (Or.inl (by decide))) (hSN u hu)
    · have := hTS u hu
      unfold TS at *
      simp only [uo 6 _ _ 7 (Or.inr (Or.inr (by decide))), uo 7 _ _ _ (Or.inl (show 7 ≠ 6 by decide)), bo 5 _ (Or.inl (by decide))]; exact this
    · rw [uo 0 _ _ _ (Or.inl (by decide))]; exact hnow
    · unfold OQ pr at *
      simp only [uo 6 _ _ 3 (Or.inr (Or.inr (by decide)))]; exact hOQ
  exact LI.join h2 hca (HG.cg (fun j => uo 4 _ _ _ (Or.inl (by decide))) (fun k j => uo 5 _ _ _ (Or.inl (by decide))) (fun j => uo 1 _ _ _ (Or.inl (by decide))) hG) (fun i hi => HI.cg rfl (Or.inr (uo 6 _ _ _ (Or.inr (Or.inr (by decide))))) (fun j => uo 4 _ _ _ (Or.inl (by decide))) (fun k j => uo 5 _ _ _ (Or.inl (by decide))) (fun j => uo 14 _ _ _ (Or.inl (by decide))) (uo 15 _ _ _ (Or.inl (by decide))) (hH i hi)) (by rw [hC_cg (fun j => uo 4 _ _ _ (Or.inl (by decide)))]; exact hN)
end
