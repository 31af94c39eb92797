/-! Adding. -/
section
variable {N : Nat} {p : PP} {I : IF}
/-- the ghost's row of a new item, before its first sample -/
def adG (I : IF) (i : Nat) (s p2 now p3 p4 p5 p6 : Int32) : IF := up (up (up (up (up (up (up (up (up I (21, 16, 0) i s) (21, 17, 0) i p2) (21, 18, 0) i now) (21, 19, 0) i p3) (21, 20, 0) i p4) (21, 21, 0) i p5) (21, 22, 0) i p6) (21, 23, 0) i 1) (20, 0, 0) 15 (nI (i + 1))
theorem adG_o {i : Nat} {s p2 now p3 p4 p5 p6 : Int32} {n : Nm} {j : Nat} (h1 : ¬ (n = (20, 0, 0) ∧ j = 15)) (h2 : ¬ (n.1 = 21 ∧ 16 ≤ n.2.1 ∧ n.2.1 ≤ 23 ∧ j = i)) : adG I i s p2 now p3 p4 p5 p6 n j = I n j := by
  have g : ∀ k, 16 ≤ k → k ≤ 23 → ¬ (n = (21, k, 0) ∧ j = i) := fun k hk hk2 q => h2 (by rw [q.1]; exact ⟨rfl, hk, hk2, q.2⟩)
  unfold adG
  rw [up_ne h1, up_ne (g _ (by decide) (by decide)), up_ne (g _ (by decide) (by decide)), up_ne (g _ (by decide) (by decide)), up_ne (g _ (by decide) (by decide)), up_ne (g _ (by decide) (by decide)), up_ne (g _ (by decide) (by decide)), up_ne (g _ (by decide) (by decide)), up_ne (g _ (by decide) (by decide))]
theorem adC_o {I2 : IF} {i nd sz : Nat} {d : Int32} {n : Nm} {j : Nat} (h : n.1 < 14 ∨ 18 < n.1 ∨ n.2.1 ≠ i) : adC I I2 i nd sz d n j = I2 n j := by
  unfold adC
  rw [enq_o (by omega)]
  unfold adB
  rw [up_ne (fun q => by rw [q.1] at h; simp at h), up_ne (fun q => by rw [q.1] at h; simp at h)]
theorem adC_ca {X I2 B B2 : IF} {i nd sz : Nat} {d : Int32} (h : CA X B) (g : CA I2 B2) : CA (adC X I2 i nd sz d) (adC B B2 i nd sz d) := by
  have e : CA (adB X I2 i) (adB B B2 i) := by
    unfold adB
    rw [h.at_ 0 0 0 8 (by decide), h.at_ 4 0 0 3 (by decide)]
    exact CA_up (CA_up g _ _ _) _ _ _
  unfold adC
  rw [h.at_ 1 0 0 nd (by decide)]
  have e17 : (fun k => adB B B2 i (17, i, 0) k) = fun k => adB X I2 i (17, i, 0) k := funext fun k => e _ _ (show 17 < 20 by decide)
  have e18 : (fun k => adB B B2 i (18, i, 0) k) = fun k => adB X I2 i (18, i, 0) k := funext fun k => e _ _ (show 18 < 20 by decide)
  rw [e17, e18]
  exact CA_enq e _ _ _ _ _ _ _
theorem enq_14 {a : IF} {i sz c : Nat} {d x : Int32} {v m : Nat → Int32} {j : Nat} (h : j ≠ 8 ∧ j ≠ 9) : enq a i sz c d v m x (14, i, 0) j = a (14, i, 0) j := by
  unfold enq
  rw [up_nj h.1, up_nj h.2]
  unfold setQ
  rw [if_neg (by simp), if_neg (by simp), if_neg (by simp)]
set_option maxHeartbeats 1000000 in
theorem add_LX {p2 p3 p4 p5 p6 : Int32} {s nd sz x : Nat} {I4 I2 : IF} (h : LX N p I) (hz : zb p5) (hs : s < gS p) (hnd : nd < 3) (e2 : p2 = nI nd) (s1 : 1 ≤ sz) (s4 : sz ≤ 4) (e4 : p4 = nI sz) (h3 : bn p3 1 20) (h6 : bn p6 0 1000) (hi : gT p < 10) (hx : I (23, 0, 0) nd = nI x) (x1 : x ≤ 1000)
    (fo : ∀ n j, n.1 ≠ 23 → I4 n j = I n j) (fa : ∀ k j, k < 2 ∨ k = 9 ∨ k = 10 → I4 (23, k, 0) j = I (23, k, 0) j) (fb : ∀ k j, 2 ≤ k → k ≤ 7 → j ≠ gT p → I4 (23, k, 0) j = I (23, k, 0) j) (fc : ∀ j, ¬ (4 * gT p ≤ j ∧ j < 4 * gT p + 4) → I4 (23, 8, 0) j = I (23, 8, 0) j) (fd : I4 (23, 11, 0) 0 = I (23, 11, 0) 0 ∧ I4 (23, 11, 0) 1 = I (23, 11, 0) 1 ∧ I4 (23, 11, 0) 2 = nI (gT p + 1) ∧ I4 (23, 11, 0) 3 = I (23, 11, 0) 3)
    (f2 : I4 (23, 2, 0) (gT p) = nI (s + 2 * nd + 32 * tn p3 + 1024 * sz + 8192 * tn p5 + 16384 + 32768 * tn p6)) (f3 : I4 (23, 3, 0) (gT p) = I (23, 11, 0) 0) (f7 : I4 (23, 7, 0) (gT p) = 0) (f4 : I4 (23, 4, 0) (gT p) = nI x) (f5 : I4 (23, 5, 0) (gT p) = nI 1) (f6 : I4 (23, 6, 0) (gT p) = nI (qN sz 0)) (f8 : ∀ k, k < qN sz 0 → I4 (23, 8, 0) (4 * gT p + k) = nI (2 * tn (qV sz 0 p5 (fun _ => 0) (nI x) k) + tn (qM sz 0 p5 (fun _ => 0) k)))
    (f : adI I4 I2 (gT p) s (cnt (gW p) s (gT p)) p2 p3 p4 p5 p6) : LX N (wT p s) (adC I4 I2 (gT p) nd sz p5) := by
  obtain ⟨B, h0, g1, g2, g3⟩ := h.i
  obtain ⟨t, hIV, -⟩ := id g1
  have hMX := hIV.2.1
  have cL : CA I4 B := fun n j hn => by rw [fo n j (by omega)]; exact h0 n j hn
  have q23 : ∀ k j, adC I4 I2 (gT p) nd sz p5 (23, k, 0) j = I4 (23, k, 0) j := fun k j => by
    rw [adC_o (Or.inr (Or.inl (show 18 < 23 by decide)))]
    exact f.2.2.2.2.2 _ _ (by simp) (by simp) (by simp) (by simp) (by simp) (by simp) (by simp)
  have f' : adI B (mix I2 B) (gT p) s (cnt (gW p) s (gT p)) p2 p3 p4 p5 p6 := by
    obtain ⟨a1, a2, a3, a4, a5, a6⟩ := f
    have m : ∀ r k z j, r < 20 → mix I2 B (r, k, z) j = I2 (r, k, z) j := fun r k z j hr => mix_lo hr
    refine ⟨?_, ?_, ?_, ?_, ?_, fun n j b1 b2 b3 b4 b5 b6 b7 => ?_⟩
    · simp only [m 14 _ _ _ (show 14 < 20 by decide)]; exact a1
    · simp only [m 15 _ _ _ (show 15 < 20 by decide)]; exact a2
    · simp only [m 16 _ _ _ (show 16 < 20 by decide), m 17 _ _ _ (show 17 < 20 by decide), m 18 _ _ _ (show 18 < 20 by decide)]; exact a3
    · rw [m 0 _ _ _ (by decide)]; exact a4
    · rw [m 6 _ _ _ (by decide)]; exact a5
    · by_cases e : n.1 < 20
      · rw [mix_lo e, a6 n j b1 b2 b3 b4 b5 b6 b7, ← cL n j e]
      · rw [mix_hi (by omega)]
  have cC : CA (adC I4 I2 (gT p) nd sz p5) (adC B (mix I2 B) (gT p) nd sz p5) := adC_ca cL CA_mix
  have hB : ∀ n j, 20 ≤ n.1 → adC B (mix I2 B) (gT p) nd sz p5 n j = B n j := fun n j hn => by
    rw [adC_o (by omega), mix_hi hn]
  have now : I (23, 11, 0) 0 = B (20, 0, 0) 1 := g3.2.2.2.2.1
  have z17 : (fun k => adB B (mix I2 B) (gT p) (17, gT p, 0) k) = fun _ => (0 : Int32) := funext fun k => by
    unfold adB
    rw [up_ne (by simp), up_ne (by simp)]; exact f'.2.2.1.2.2.2.1 k
  have z18 : (fun k => adB B (mix I2 B) (gT p) (18, gT p, 0) k) = fun _ => (0 : Int32) := funext fun k => by
    unfold adB
    rw [up_ne (by simp), up_ne (by simp)]; exact f'.2.2.1.2.2.2.2 k
  have xB : B (1, 0, 0) nd = nI x := by
    rw [← hMX.1.2.2.2.2 nd (by omega), ← hx]
    exact (g3.1 nd hnd).symm
  generalize hb : adG (adC B (mix I2 B) (gT p) nd sz p5) (gT p) (nI s) p2 (B (20, 0, 0) 1) p3 p4 p5 p6 = b
  have bo : ∀ n j, ¬ (n = (20, 0, 0) ∧ j = 15) → ¬ (n.1 = 21 ∧ 16 ≤ n.2.1 ∧ n.2.1 ≤ 23 ∧ j = gT p) → b n j = adC B (mix I2 B) (gT p) nd sz p5 n j := fun n j a1 a2 => by rw [← hb]; exact adG_o a1 a2
  have b16 : b (21, 16, 0) (gT p) = nI s := by rw [← hb]; unfold adG; simp [up]
  have b17 : b (21, 17, 0) (gT p) = p2 := by rw [← hb]; unfold adG; simp [up]
  have b18 : b (21, 18, 0) (gT p) = B (20, 0, 0) 1 := by rw [← hb]; unfold adG; simp [up]
  have b19 : b (21, 19, 0) (gT p) = p3 := by rw [← hb]; unfold adG; simp [up]
  have b20 : b (21, 20, 0) (gT p) = p4 := by rw [← hb]; unfold adG; simp [up]
  have b21 : b (21, 21, 0) (gT p) = p5 := by rw [← hb]; unfold adG; simp [up]
  have b22 : b (21, 22, 0) (gT p) = p6 := by rw [← hb]; unfold adG; simp [up]
  have b23 : b (21, 23, 0) (gT p) = 1 := by rw [← hb]; unfold adG; simp [up]
  have b15 : b (20, 0, 0) 15 = nI (gT p + 1) := by rw [← hb]; unfold adG; simp [up]
  obtain ⟨r1, r2, r3, r4, r5⟩ := add_LI (b := b) g1 hz hs (by omega) e2 s1 s4 e4 h3 h6 (by omega) f' b16 b17 (by rw [b18, hB _ _ (by decide)]) b19 b20 b21 b22 b23 b15 (fun n j a1 a2 => bo n j (fun q => a1 ⟨q.1, Or.inr q.2⟩) a2)
  rw [z17, z18, xB] at r5
  rw [z17, z18] at r1
  obtain ⟨r1a, r1b, r1c⟩ := r1
  have bB : ∀ n j, 20 ≤ n.1 → ¬ (n = (20, 0, 0) ∧ j = 15) → ¬ (n.1 = 21 ∧ 16 ≤ n.2.1 ∧ n.2.1 ≤ 23 ∧ j = gT p) → b n j = B n j := fun n j hn a1 a2 => by rw [bo n j a1 a2, hB n j hn]
  -- the new ghost's rows
  have eo : ∀ k j, ¬ (25 ≤ k ∧ k ≤ 29) → enqR b (gT p) sz 0 p5 (fun _ => 0) (fun _ => 0) (nI x) (21, k, 0) j = b (21, k, 0) j := fun k j g => enqR_o (Or.inl (fun q => by simp only [Prod.mk.injEq] at q; omega)) (Or.inl (fun q => by simp only [Prod.mk.injEq] at q; omega)) (Or.inl (fun q => by simp only [Prod.mk.injEq] at q; omega)) (Or.inl (fun q => by simp only [Prod.mk.injEq] at q; omega)) (Or.inl (fun q => by simp only [Prod.mk.injEq] at q; omega))
  have eoj : ∀ k j, k ≠ 28 → k ≠ 29 → j ≠ gT p → enqR b (gT p) sz 0 p5 (fun _ => 0) (fun _ => 0) (nI x) (21, k, 0) j = b (21, k, 0) j := fun k j g8 g9 g => enqR_o (Or.inr g) (Or.inr g) (Or.inr g) (Or.inl (fun q => by simp only [Prod.mk.injEq] at q; omega)) (Or.inl (fun q => by simp only [Prod.mk.injEq] at q; omega))
  have eoq : ∀ k j, k = 28 ∨ k = 29 → ¬ (4 * gT p ≤ j ∧ j < 4 * gT p + 4) → enqR b (gT p) sz 0 p5 (fun _ => 0) (fun _ => 0) (nI x) (21, k, 0) j = b (21, k, 0) j := fun k j g8 g => enqR_o (Or.inl (fun q => by simp only [Prod.mk.injEq] at q; omega)) (Or.inl (fun q => by simp only [Prod.mk.injEq] at q; omega)) (Or.inl (fun q => by simp only [Prod.mk.injEq] at q; omega)) (Or.inr g) (Or.inr g)
  have eo2 : ∀ n j, n.1 ≠ 21 → enqR b (gT p) sz 0 p5 (fun _ => 0) (fun _ => 0) (nI x) n j = b n j := fun n j g => enqR_o (Or.inl (fun q => g (by rw [q]))) (Or.inl (fun q => g (by rw [q]))) (Or.inl (fun q => g (by rw [q]))) (Or.inl (fun q => g (by rw [q]))) (Or.inl (fun q => g (by rw [q])))
  have low : ∀ n j, n.1 < 20 → enqR b (gT p) sz 0 p5 (fun _ => 0) (fun _ => 0) (nI x) n j = adC B (mix I2 B) (gT p) nd sz p5 n j := fun n j hn => by
    rw [eo2 n j (by omega), bo n j (fun q => by rw [q.1] at hn; exact absurd hn (by decide)) (fun q => by omega)]
  have lowA : ∀ r k z j, r < 20 → (r < 14 ∨ 18 < r ∨ k ≠ gT p) → ¬ (r = 0 ∧ j = 6) → ¬ (r = 6 ∧ j = 8) → enqR b (gT p) sz 0 p5 (fun _ => 0) (fun _ => 0) (nI x) (r, k, z) j = B (r, k, z) j := fun r k z j hr h14 h0 h6 => by
    rw [low _ _ hr, adC_o h14]
    exact f'.2.2.2.2.2 _ _ (fun q => by simp only [Prod.mk.injEq] at q; omega) (fun q => by simp only [Prod.mk.injEq] at q; omega) (fun q => by simp only [Prod.mk.injEq] at q; omega) (fun q => by simp only [Prod.mk.injEq] at q; omega) (fun q => by simp only [Prod.mk.injEq] at q; omega) (fun q => h0 ⟨by have := q.1; simp only [Prod.mk.injEq] at this; exact this.1, q.2⟩) (fun q => h6 ⟨by have := q.1; simp only [Prod.mk.injEq] at this; exact this.1, q.2⟩)
  have e14 : ∀ j, j = 2 ∨ j = 7 → enqR b (gT p) sz 0 p5 (fun _ => 0) (fun _ => 0) (nI x) (14, gT p, 0) j = mix I2 B (14, gT p, 0) j := fun j hj => by
    rw [low _ _ (by simp)]
    unfold adC
    rw [enq_14 (by omega)]
    unfold adB
    rw [up_nj (by omega), up_nj (by omega)]
  refine LX.m (B := enqR b (gT p) sz 0 p5 (fun _ => 0) (fun _ => 0) (nI x)) (fun n j hn => ?_) r5 ?_ ?_
  · rw [low n j hn]; exact cC n j hn
  · obtain ⟨k1, k2, k3, k4, k5⟩ := g2
    rw [lowA 0 0 0 8 (by decide) (Or.inl (by decide)) (by decide) (by decide)]
    refine ⟨k1, (show gT p + 1 ≤ 10 by omega), fun i hi' => ?_, fun u hu => ?_, ?_⟩
    · by_cases e : i = gT p
      · subst e
        rw [e14 2 (Or.inl rfl), f'.1.2.1, e2, tn_nI (by omega)]; omega
      · have hi' : i < gT p + 1 := hi'
        rw [lowA _ _ _ _ (by decide) (by omega) (by decide) (by decide)]; exact k3 i (by omega)
    · obtain ⟨q1, q2, q3⟩ := k4 u hu
      exact ⟨by rw [lowA _ _ _ _ (by decide) (by omega) (by decide) (by decide)]; exact q1, SN.cg rfl (lowA _ _ _ _ (by decide) (by omega) (by decide) (by decide)) (lowA _ _ _ _ (by decide) (by omega) (by decide) (by decide)) (fun o => lowA _ _ _ _ (by decide) (by omega) (by decide) (by decide)) q2, q3.cg (fun j hj => lowA _ _ _ _ (by decide) (by omega) (by omega) (by omega))⟩
    · intro i hi' j hj hb
      by_cases e : i = gT p
      · subst e
        rw [e14 7 (Or.inr rfl), f'.1.2.2.2.2.1, bq_0] at hb
        exact absurd hb (by decide)
      · have hi' : i < gT p + 1 := hi'
        rw [lowA _ _ _ _ (by decide) (by omega) (by decide) (by decide)] at hb
        obtain ⟨w1, w2⟩ := k5 i (by omega) j hj hb
        refine ⟨(show j < gT p + 1 by omega), ?_⟩
        show (if j = gT p then s else gW p j) = (if i = gT p then s else gW p i)
        rw [if_neg (by omega), if_neg e]; exact w2
  · have mz := hMX.2.2.2
    refine g3.item (p' := wT p s) (i := gT p) (Or.inr ⟨rfl, rfl⟩) (fun k j g => ?_) (fun k j a1 a2 g => ?_) (fun k j a1 g => ?_) (fun k j g => by rw [q23]; exact fa k j g) (fun k j a1 a2 g => by rw [q23]; exact fb k j a1 a2 g) (fun j g => by rw [q23]; exact fc j g) ?_ ?_
    · rw [eo k j (by omega)]; exact bB _ _ (by simp) (by simp) (fun q => by have := q.2; simp only at this; omega)
    · rw [eoj k j (by omega) (by omega) g]; exact bB _ _ (by simp) (by simp) (fun q => g q.2.2.2)
    · rw [eoq k j a1 g]; exact bB _ _ (by simp) (by simp) (fun q => by have := q.2; simp only at this; omega)
    · rw [q23, q23, q23, q23, eo2 _ _ (by simp), eo2 _ _ (by simp), eo2 _ _ (by simp), eo2 _ _ (by simp), b15, fd.1, fd.2.1, fd.2.2.1, fd.2.2.2, bB _ _ (by simp) (by simp) (by simp), bB _ _ (by simp) (by simp) (by simp), bB _ _ (by simp) (by simp) (by simp)]
      exact ⟨g3.2.2.2.2.1, g3.2.2.2.2.2.1, rfl, g3.2.2.2.2.2.2.2⟩
    · obtain ⟨y1, y2, y3⟩ := bn_tn h3 (by decide)
      obtain ⟨u1, u2, u3⟩ := bn_tn h6 (by decide)
      obtain ⟨v1, v2⟩ := tn_zb hz
      have b24 : b (21, 24, 0) (gT p) = 0 := by
        rw [bB _ _ (by simp) (by simp) (by simp)]; exact mz.2.2.1 24 _ (by decide) (by decide) (Nat.le_refl _) (by omega)
      have tk : tkN b (gT p) = s + 2 * nd + 32 * tn p3 + 1024 * sz + 8192 * tn p5 + 16384 + 32768 * tn p6 := by
        unfold tkN
        have hs4 := hIV.1.1.2.1
        rw [b16, b17, b19, b20, b21, b22, b23, e2, e4, tn_nI (show s < 2 ^ 31 by omega), tn_nI (show nd < 2 ^ 31 by omega), tn_nI (show sz < 2 ^ 31 by omega), show tn 1 = 1 from rfl]
      have base : EncI b (up (up (up I4 (23, 4, 0) (gT p) (b (21, 25, 0) (gT p))) (23, 5, 0) (gT p) 0) (23, 6, 0) (gT p) 0) (gT p) := by
        refine ⟨by rw [b21]; exact ⟨v2, v1⟩, ?_, ?_, ?_, ?_, ?_, ?_, ?_, fun k hk => ?_⟩
        · rw [tk, ← f2]; simp [up]
        · rw [b18, ← now, ← f3]; simp [up]
        · simp [up]
        · rw [r3]; simp [up]
        · rw [r1a, up_same]; rfl
        · rw [b24, ← f7]; simp [up]
        · rw [r1a]; decide
        · rw [r1a] at hk; exact absurd hk (Nat.not_lt_zero _)
      exact EncI_enq (cq := 0) base s4 (Nat.zero_le _) r1a (by rw [r3]; rfl) r1b (by rw [tn_nI (by omega)]; exact ⟨rfl, x1⟩) (fun k hk => by rw [q23, up_ne (fun q => n23 (by omega) q.1), up_ne (fun q => n23 (by omega) q.1), up_ne (fun q => n23 (by omega) q.1)]) (by rw [q23]; exact f4) (by rw [q23]; exact f5) (by rw [q23]; exact f6) (fun k hk => by rw [q23]; exact f8 k hk)
end
