/-! What opening and adding leave. -/
theorem CB_up {a a' : IF} (h : CB a a') (n : Nm) (j : Nat) (v : Int32) : CB (up a n j v) (up a' n j v) := fun m k hm => by
  by_cases e : m = n ∧ k = j
  · rw [e.1, e.2, up_same, up_same]
  · rw [up_ne e, up_ne e]; exact h m k hm
theorem CB_mix {X G : IF} : CB G (mix X G) := fun _ _ h => mix_hi h
theorem Enc.cb {p p' : PP} {b b' I : IF} (h : Enc p b I) (hp : gT p' = gT p) (g : CB b b') : Enc p' b' I := h.gh hp (fun n j hn _ => g n j hn)
section
variable {N : Nat} {p : PP} {I : IF}
/-- the law's own writes, as it opens -/
def opL (I : IF) (s : Nat) (p1 p2 p3 p4 p5 : Int32) : IF := up (up (up (up (up (up (up (up I (23, 1, 0) (11 * s + 0) 1) (23, 1, 0) (11 * s + 1) (I (23, 11, 0) 0)) (23, 1, 0) (11 * s + 2) p1) (23, 1, 0) (11 * s + 3) p2) (23, 1, 0) (11 * s + 4) p3) (23, 1, 0) (11 * s + 5) p4) (23, 1, 0) (11 * s + 6) p5) (23, 11, 0) 1 (nI (s + 1))
/-- the ghost's -/
def opG (I : IF) (s : Nat) (now p1 p2 p3 p4 p5 : Int32) : IF := up (up (up (up (up (up (up (up I (21, 4 + 0, 0) s 1) (21, 4 + 1, 0) s now) (21, 4 + 2, 0) s p1) (21, 4 + 3, 0) s p2) (21, 4 + 4, 0) s p3) (21, 4 + 5, 0) s p4) (21, 4 + 6, 0) s p5) (20, 0, 0) 3 (nI (s + 1))
theorem opL_o {s : Nat} {p1 p2 p3 p4 p5 : Int32} {n : Nm} {j : Nat} (h : n.1 ≠ 23) : opL I s p1 p2 p3 p4 p5 n j = I n j := by
  have g : ∀ k i, ¬ (n = (23, k, 0) ∧ j = i) := fun k i q => h (by rw [q.1])
  unfold opL
  rw [up_ne (g _ _), up_ne (g _ _), up_ne (g _ _), up_ne (g _ _), up_ne (g _ _), up_ne (g _ _), up_ne (g _ _), up_ne (g _ _)]
theorem opG_o {s : Nat} {now p1 p2 p3 p4 p5 : Int32} {n : Nm} {j : Nat} (h1 : ¬ (n = (20, 0, 0) ∧ j = 3)) (h2 : ¬ (n.1 = 21 ∧ 4 ≤ n.2.1 ∧ n.2.1 ≤ 10 ∧ j = s)) : opG I s now p1 p2 p3 p4 p5 n j = I n j := by
  have g : ∀ k, k ≤ 6 → ¬ (n = (21, 4 + k, 0) ∧ j = s) := fun k hk q => h2 (by rw [q.1]; exact ⟨rfl, by simp, by simp; omega, q.2⟩)
  unfold opG
  rw [up_ne h1, up_ne (g _ (by decide)), up_ne (g _ (by decide)), up_ne (g _ (by decide)), up_ne (g _ (by decide)), up_ne (g _ (by decide)), up_ne (g _ (by decide)), up_ne (g _ (by decide))]
theorem open_LX {p1 p2 p3 p4 p5 : Int32} {O : Nat → Nat} {I' : IF} (h : LX N p I) (hrg : bn p1 1 20 ∧ bn p2 1 10 ∧ bn p3 1 30 ∧ bn p4 0 9 ∧ bn p5 1 6) (w2 : gS p < 2) (fO : opF p (opL I (gS p) p1 p2 p3 p4 p5) O (tn p4)) (fI : opI (opL I (gS p) p1 p2 p3 p4 p5) I' (gS p) p1 p2 p3 p4 p5) : LX N (wS p O) I' := by
  obtain ⟨B, h0, g1, g2, g3⟩ := h.i
  obtain ⟨f1, f2, f3, f4⟩ := fI
  have cL : CA (opL I (gS p) p1 p2 p3 p4 p5) B := fun n j hn => by rw [opL_o (by omega)]; exact h0 n j hn
  have fO' : opF p B O (tn p4) := by
    unfold opF at *
    simp only [cL.at_ 6 _ _ _ (show 6 < 20 by decide)]; exact fO
  have m : ∀ r k z j, r < 20 → mix I' B (r, k, z) j = I' (r, k, z) j := fun r k z j hr => mix_lo hr
  have fI' : opI B (mix I' B) (gS p) p1 p2 p3 p4 p5 := by
    refine ⟨?_, ?_, ?_, fun n j a1 a2 a3 a4 a5 => ?_⟩
    · simp only [m 6 _ _ _ (show 6 < 20 by decide)]; exact f1
    · simp only [m 7 _ _ _ (show 7 < 20 by decide)]; exact f2
    · rw [m 0 _ _ _ (by decide)]; exact f3
    · by_cases e : n.1 < 20
      · rw [mix_lo e, f4 n j a1 a2 a3 a4 a5, ← cL n j e]
      · rw [mix_hi (by omega)]
  have h5 : bn p5 1 10 := by obtain ⟨k, k1, k2, e⟩ := hrg.2.2.2.2; exact ⟨k, k1, by omega, e⟩
  have oo : ∀ r k z j, r < 20 → opG (mix I' B) (gS p) (B (20, 0, 0) 1) p1 p2 p3 p4 p5 (r, k, z) j = I' (r, k, z) j := fun r k z j hr => by
    rw [opG_o (fun q => by have := q.1; simp only [Prod.mk.injEq] at this; omega) (fun q => by have := q.1; simp only at this; omega)]; exact m r k z j hr
  have gN : ∀ k v s j i w, k ≠ i → ∀ X : IF, up X (21, i, 0) s w (21, k, 0) j = X (21, k, 0) j := fun k v s j i w hk X => up_ne (fun q => by have := q.1; simp only [Prod.mk.injEq] at this; omega)
  refine LX.m (B := opG (mix I' B) (gS p) (B (20, 0, 0) 1) p1 p2 p3 p4 p5) (fun n j hn => ?_) ?_ ?_ ?_
  · rw [opG_o (fun q => by rw [q.1] at hn; exact absurd hn (by decide)) (fun q => by omega)]; exact mix_lo hn
  · refine open_LI g1 ⟨hrg.1, hrg.2.1, hrg.2.2.1, hrg.2.2.2.1, h5⟩ (by omega) fO' fI' ?_ ?_ ?_ ?_ ?_ ?_ ?_ ?_ (fun n j a1 a2 => opG_o (fun q => a1 ⟨q.1, Or.inr q.2⟩) a2)
    all_goals unfold opG
    · rw [up_ne (by simp)]; simp [up]
    · rw [mix_hi (show 20 ≤ 20 by decide)]; simp [up]
    · simp [up]
    · simp [up]
    · simp [up]
    · simp [up]
    · simp [up]
    · simp [up]
  · obtain ⟨k1, k2, k3, k4, k5⟩ := g2
    have e0 : opG (mix I' B) (gS p) (B (20, 0, 0) 1) p1 p2 p3 p4 p5 (0, 0, 0) 8 = B (0, 0, 0) 8 := by
      rw [oo _ _ _ _ (by decide), f4 _ _ (by simp) (by simp) (by simp) (by simp) (by simp), opL_o (by decide), h0.at_ 0 0 0 8 (by decide)]
    rw [e0]
    have o14 : ∀ i j, I' (14, i, 0) j = B (14, i, 0) j := fun i j => by
      rw [f4 _ _ (by simp) (by simp) (by simp) (by simp) (by simp), opL_o (by simp), h0.at_ 14 i 0 j (by decide)]
    have o10 : ∀ s o j, I' (10, s, o) j = B (10, s, o) j := fun s o j => by
      rw [f4 _ _ (by simp) (by simp) (by simp) (by simp) (by simp), opL_o (by simp), h0.at_ 10 s o j (by decide)]
    have o6 : ∀ s j, s ≠ gS p → I' (6, s, 0) j = B (6, s, 0) j := fun s j g => by
      rw [f4 _ _ (by simp [g]) (by simp) (by simp) (by simp) (by simp), opL_o (by simp), h0.at_ 6 s 0 j (by decide)]
    refine ⟨(show gS p + 1 ≤ 2 by omega), k2, fun i hi => by rw [oo _ _ _ _ (by decide), o14]; exact k3 i hi, fun u hu => ?_, ?_⟩
    · by_cases e : u = gS p
      · subst e
        obtain ⟨c7, -, c9, c10, -, -, c13, -, c2, -, c4⟩ := f1
        refine ⟨?_, ⟨0, fun _ => 0, ?_, Nat.zero_le _, fun q hq => ?_, fun q r _ hr => ?_⟩, ?_⟩
        · rw [oo _ _ _ _ (by decide), c4]; exact (bn_tn hrg.2.2.2.2 (by decide)).2.2
        · rw [oo _ _ _ _ (by decide), c10]; rfl
        · rw [oo _ _ _ _ (by decide), c9] at hq; exact absurd hq (Nat.not_lt_zero _)
        · rw [oo _ _ _ _ (by decide), c9] at hr; exact absurd hr (Nat.not_lt_zero _)
        · obtain ⟨z1, z2, z3⟩ := bn_tn hrg.2.2.1 (by decide)
          exact ⟨0, tn p3, by rw [oo _ _ _ _ (by decide), c13]; rfl, by rw [oo _ _ _ _ (by decide), c2]; exact z1, z2, z3, Nat.zero_le _, fun _ => by omega⟩
      · have hu' : u < gS p := by
          have hu : u < gS p + 1 := hu
          omega
        obtain ⟨q1, q2, q3⟩ := k4 u hu'
        exact ⟨by rw [oo _ _ _ _ (by decide), o6 u _ e]; exact q1, SN.cg rfl (by rw [oo _ _ _ _ (by decide), o6 u _ e]) (by rw [oo _ _ _ _ (by decide), o6 u _ e]) (fun o => by rw [oo _ _ _ _ (by decide), o10]) q2, q3.cg (fun j _ => by rw [oo _ _ _ _ (by decide), o6 u _ e])⟩
    · intro i hi j hj hb
      rw [oo _ _ _ _ (by decide), o14] at hb
      exact k5 i hi j hj hb
  · have e1 : I (23, 11, 0) 0 = B (20, 0, 0) 1 := g3.2.2.2.2.1
    have x := (((((((g3.sub (s := gS p) (j := 0) w2 (by decide) 1).sub (s := gS p) (j := 1) w2 (by decide) (B (20, 0, 0) 1)).sub (s := gS p) (j := 2) w2 (by decide) p1).sub (s := gS p) (j := 3) w2 (by decide) p2).sub (s := gS p) (j := 4) w2 (by decide) p3).sub (s := gS p) (j := 5) w2 (by decide) p4).sub (s := gS p) (j := 6) w2 (by decide) p5).num (Or.inr (Or.inl ⟨rfl, rfl⟩)) (nI (gS p + 1))
    have x2 : Enc p (opG B (gS p) (B (20, 0, 0) 1) p1 p2 p3 p4 p5) (opL I (gS p) p1 p2 p3 p4 p5) := by
      unfold opL; rw [e1]; exact x
    have x3 : Enc p (opG B (gS p) (B (20, 0, 0) 1) p1 p2 p3 p4 p5) I' := x2.law (fun n j hn => f4 n j (fun q => by rw [q] at hn; simp at hn) (fun q => by rw [q] at hn; simp at hn) (fun q => by rw [q] at hn; simp at hn) (fun q => by rw [q] at hn; simp at hn) (fun q => by rw [q.1] at hn; simp at hn))
    refine x3.cb rfl ?_
    unfold opG
    exact CB_up (CB_up (CB_up (CB_up (CB_up (CB_up (CB_up (CB_up CB_mix _ _ _) _ _ _) _ _ _) _ _ _) _ _ _) _ _ _) _ _ _) _ _ _
end
