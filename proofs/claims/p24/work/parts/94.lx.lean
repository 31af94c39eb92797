/-! What holds between two turns of the law. -/
/-- the class's ints of the one, the ghost's of the other -/
def mix (X G : IF) : IF := fun n j => if n.1 < 20 then X n j else G n j
theorem mix_lo {X G : IF} {n : Nm} {j : Nat} (h : n.1 < 20) : mix X G n j = X n j := if_pos h
theorem mix_hi {X G : IF} {n : Nm} {j : Nat} (h : 20 ≤ n.1) : mix X G n j = G n j := if_neg (Nat.not_lt.mpr h)
theorem mix_eq {X G B : IF} (h1 : ∀ n j, n.1 < 20 → X n j = B n j) (h2 : ∀ n j, 20 ≤ n.1 → G n j = B n j) : mix X G = B := by
  funext n j
  by_cases g : n.1 < 20
  · rw [mix_lo g]; exact h1 n j g
  · rw [mix_hi (Nat.not_lt.mp g)]; exact h2 n j (Nat.not_lt.mp g)
theorem CA_mix {X G : IF} : CA X (mix X G) := fun _ _ h => mix_lo h
theorem FL.ca {I I' : IF} (h : FL I I') : CA I I' := fun n j g => h n j (by omega)
theorem mix_cong {X Y G : IF} (h : CA X Y) : mix Y G = mix X G := mix_eq (fun n j g => by rw [mix_lo g]; exact h n j g) (fun n j g => by rw [mix_hi g])
def LX (N : Nat) (p : PP) (I : IF) : Prop := ∃ G, LI N p (mix I G) ∧ XT p (mix I G) (tn (I (0, 0, 0) 8)) ∧ Enc p G I
theorem LX.mono {N M : Nat} {p : PP} {I : IF} (h : LX N p I) (g : N ≤ M) : LX M p I := by
  obtain ⟨G, h1, h2⟩ := h
  exact ⟨G, h1.mono g, h2⟩
theorem XT.cg {p p' : PP} {a a' : IF} {t : Nat} (h : XT p a t) (hS : gS p' = gS p) (hT : gT p' = gT p) (hW : gW p' = gW p) (hP : gP p' = gP p) (e14 : ∀ i j, j = 2 ∨ j = 7 → a' (14, i, 0) j = a (14, i, 0) j) (e6 : ∀ s j, j = 2 ∨ j = 4 ∨ j = 7 ∨ j = 9 ∨ j = 10 ∨ j = 13 → a' (6, s, 0) j = a (6, s, 0) j) (e10 : ∀ s o, a' (10, s, o) 3 = a (10, s, o) 3) : XT p' a' t := by
  obtain ⟨h1, h2, h3, h4, h5⟩ := h
  refine ⟨by rw [hS]; exact h1, by rw [hT]; exact h2, ?_, ?_, ?_⟩
  · rw [hT]; intro i hi; rw [e14 i 2 (by omega)]; exact h3 i hi
  · rw [hS]; intro s hs
    obtain ⟨g1, g2, g3⟩ := h4 s hs
    exact ⟨by rw [e6 s 4 (by omega)]; exact g1, SN.cg (by rw [hP]) (e6 s 9 (by omega)) (e6 s 10 (by omega)) (fun o => e10 s o) g2, g3.cg (fun j hj => e6 s j (by omega))⟩
  · unfold Trg
    rw [hT, hW]
    intro i hi j hj hb
    rw [e14 i 7 (by omega)] at hb
    exact h5 i hi j hj hb
theorem IV.join2 {M : Nat} {p : PP} {I' b : IF} {t : Nat} (h1 : IV p I' b t) (hca : CA I' b) (h2 : HG I' t) (h3 : ∀ i, i < gT p → HI p I' i t) (h4 : hC I' ≤ M) : LI M p b := LI.join h1 hca h2 h3 h4
section
variable {N : Nat} {p : PP} {I : IF}
set_option maxHeartbeats 1000000 in
theorem write_LI {t k v : Nat} (h : LI N p I) (w : k < 10) (v2 : v ≤ 1000) (hcc : hC I < 512) (hnow' : I (0, 0, 0) 8 = nI t) (t5 : t ≤ 5000) : LI (N + 1) p (up (up (wrA I k (hC I) (nI t) (nI v)) (20, 0, 0) 0 0) (21, 2, 0) k (nI v)) := by
  obtain ⟨t', hIV, hG, hH, hN⟩ := h
  obtain ⟨hW, hM, hTI, hSN, hTS, hnow, hOQ, h5⟩ := hIV
  have et : t' = t := (nI_eq (by omega) (by omega)).mp (hnow.symm.trans hnow')
  subst et
  obtain ⟨H1, H2, H3⟩ := H_wr (k := k) w v2 h5 hG hcc
  have uo : ∀ r z o j, r ≠ 1 ∧ r ≠ 4 ∧ r ≠ 5 → wrA I k (hC I) (nI t') (nI v) (r, z, o) j = I (r, z, o) j := fun r z o j g => wrA_o g
  have hw1 := WF_wr (t := t') hW w v2 hcc
  generalize hA : wrA I k (hC I) (nI t') (nI v) = A at H1 H2 H3 uo hw1 ⊢
  have hA1 : ∀ j, A (1, 0, 0) j = if j = k then nI v else I (1, 0, 0) j := fun j => by rw [← hA]; exact wrA_1
  have hX : MX p A (up (up A (20, 0, 0) 0 0) (21, 2, 0) k (nI v)) := by
    refine MX.g hM (fun r z o j g0 g4 g5 g1 => uo r z o j ⟨g1, g4, g5⟩) (fun z j g => by rw [up_ne (fun q => by have := q.1; simp only [Prod.mk.injEq] at this; omega), up_ne (by simp), uo 21 _ _ _ (by decide)]) ?_
    obtain ⟨g1, g2, g3, g4, g5⟩ := hM.1
    refine ⟨?_, ?_, ?_, ?_, fun j hj => ?_⟩
    · rw [up_ne (by simp), up_nj (by decide), uo 20 _ _ _ (by decide), uo 0 _ _ _ (by decide)]; exact g1
    · rw [up_ne (by simp), up_nj (by decide), uo 20 _ _ _ (by decide), uo 0 _ _ _ (by decide)]; exact g2
    · rw [up_ne (by simp), up_nj (by decide), uo 20 _ _ _ (by decide), uo 0 _ _ _ (by decide)]; exact g3
    · rw [up_ne (by simp), up_nj (by decide), uo 20 _ _ _ (by decide), uo 0 _ _ _ (by decide)]; exact g4
    · rw [hA1]
      by_cases e : j = k
      · subst e; rw [up_same, if_pos rfl]
      · rw [up_nj e, if_neg e, up_ne (by simp), uo 21 _ _ _ (by decide)]; exact g5 j hj
  have h2 : IV p A (up (up A (20, 0, 0) 0 0) (21, 2, 0) k (nI v)) t' := by
    refine ⟨hw1, hX, fun i hi => ?_, fun u hu => SN.cg rfl (uo 6 _ _ _ (by decide)) (uo 6 _ _ _ (by decide)) (fun o => uo 10 _ _ _ (by decide)) (hSN u hu), fun u hu => ?_, ?_, ?_, h5⟩
    · have := hTI i hi
      unfold TI at *
      simp only [uo 6 _ _ _ (show 6 ≠ 1 ∧ 6 ≠ 4 ∧ 6 ≠ 5 by decide), uo 14 _ _ _ (show 14 ≠ 1 ∧ 14 ≠ 4 ∧ 14 ≠ 5 by decide), uo 15 _ _ _ (show 15 ≠ 1 ∧ 15 ≠ 4 ∧ 15 ≠ 5 by decide)]; exact this
    · have := hTS u hu
      unfold TS at *
      rw [uo 6 _ _ _ (by decide), uo 7 _ _ _ (by decide), uo 7 _ _ _ (by decide), up_ne (by simp), up_ne (by simp), uo 21 _ _ _ (by decide)]; exact this
    · rw [uo 0 _ _ _ (by decide)]; exact hnow
    · unfold OQ pr at *
      simp only [uo 6 _ _ _ (show 6 ≠ 1 ∧ 6 ≠ 4 ∧ 6 ≠ 5 by decide)]; exact hOQ
  exact LI.join h2 (fun n j hn => by rw [up_ne (fun q => by rw [q.1] at hn; exact absurd hn (by simp)), up_ne (fun q => by rw [q.1] at hn; exact absurd hn (by simp))]) H1 (fun i hi => H3 i (hH i hi)) (by rw [H2]; omega)
set_option maxHeartbeats 1000000 in
theorem request_LI {q0 : Nat} (h : LI N p I) (w : q0 < 10) : LI N p (up (up (up I (0, 0, 0) 7 (nI (q0 + 1))) (20, 0, 0) 0 0) (20, 0, 0) 35 (nI (q0 + 1))) := by
  obtain ⟨t, hIV, hG, hH, hN⟩ := h
  obtain ⟨hW, hM, hTI, hSN, hTS, hnow, hOQ, h5⟩ := hIV
  have hb : bn (nI (q0 + 1)) 0 10 := bn_nI (by omega) (by omega)
  have hw : WF p (up I (0, 0, 0) 7 (nI (q0 + 1))) := WF_up0 hW hb
  have uo : ∀ r k z j, r ≠ 0 → up I (0, 0, 0) 7 (nI (q0 + 1)) (r, k, z) j = I (r, k, z) j := fun r k z j g => up_ne (fun q => by have := q.1; simp only [Prod.mk.injEq] at this; exact g this.1)
  have hM2 : MX p (up I (0, 0, 0) 7 (nI (q0 + 1))) (up (up (up I (0, 0, 0) 7 (nI (q0 + 1))) (20, 0, 0) 0 0) (20, 0, 0) 35 (nI (q0 + 1))) := by
    refine MX.g hM (fun r k z j g _ _ _ => uo r k z j g) (fun k j _ => by rw [up_ne (by simp), up_ne (by simp), up_ne (by simp)]) ?_
    obtain ⟨g1, g2, g3, g4, g5⟩ := hM.1
    unfold MG
    simp [up]
    exact ⟨g1, g3, g4, fun k hk => g5 k hk⟩
  have h2 : IV p (up I (0, 0, 0) 7 (nI (q0 + 1))) (up (up (up I (0, 0, 0) 7 (nI (q0 + 1))) (20, 0, 0) 0 0) (20, 0, 0) 35 (nI (q0 + 1))) t := by
    refine ⟨hw, hM2, fun i hi => ?_, fun s hs => SN.cg rfl (uo 6 _ _ _ (by decide)) (uo 6 _ _ _ (by decide)) (fun o => uo 10 _ _ _ (by decide)) (hSN s hs), fun s hs => ?_, ?_, ?_, h5⟩
    · have := hTI i hi
      unfold TI at *
      simp only [uo 6 _ _ _ (by decide), uo 14 _ _ _ (by decide), uo 15 _ _ _ (by decide)]; exact this
    · have := hTS s hs
      unfold TS at *
      rw [uo 6 _ _ _ (by decide), uo 7 _ _ _ (by decide), uo 7 _ _ _ (by decide), up_ne (by simp), up_ne (by simp), up_ne (by simp)]; exact this
    · rw [up_nj (by decide)]; exact hnow
    · unfold OQ pr at *
      simp only [uo 6 _ _ _ (by decide)]; exact hOQ
  refine LI.join h2 (fun n j hn => ?_) (HG.cg (fun j => uo 4 _ _ _ (by decide)) (fun k j => uo 5 _ _ _ (by decide)) (fun j => uo 1 _ _ _ (by decide)) hG) (fun i hi => HI.cg rfl (Or.inr (uo 6 _ _ _ (by decide))) (fun j => uo 4 _ _ _ (by decide)) (fun k j => uo 5 _ _ _ (by decide)) (fun j => uo 14 _ _ _ (by decide)) (uo 15 _ _ _ (by decide)) (hH i hi)) (by rw [hC_cg (fun j => uo 4 _ _ _ (by decide))]; exact hN)
  rw [up_ne (fun q => by rw [q.1] at hn; exact absurd hn (by decide)), up_ne (fun q => by rw [q.1] at hn; exact absurd hn (by decide))]
set_option maxHeartbeats 1000000 in
theorem close_LI {s : Nat} (h : LI N p I) (hs : s < gS p) : LI N p (up (up (up I (6, s, 0) 7 0) (20, 0, 0) 0 0) (21, 4, 0) s 0) := by
  obtain ⟨t, hIV, hG, hH, hN⟩ := h
  obtain ⟨hW, hM, hTI, hSN, hTS, hnow, hOQ, h5⟩ := hIV
  have uo : ∀ r k z j, (r ≠ 6 ∨ k ≠ s ∨ j ≠ 7) → up I (6, s, 0) 7 0 (r, k, z) j = I (r, k, z) j := fun r k z j g => up_ne (fun q => by have := q.1; simp only [Prod.mk.injEq] at this; have := q.2; omega)
  have hM1 : MX p I (up I (6, s, 0) 7 0) := hM.cb (fun n j hn => up_ne (fun q => by rw [q.1] at hn; exact absurd hn (by simp)))
  have hw1 : WF p (up I (6, s, 0) 7 0) := WF_up6 hW (by decide) (by decide) (by decide) (by decide) (fun _ => zb0)
  have hca : CA (up I (6, s, 0) 7 0) (up (up (up I (6, s, 0) 7 0) (20, 0, 0) 0 0) (21, 4, 0) s 0) := fun n j hn => by
    rw [up_ne (fun q => by rw [q.1] at hn; exact absurd hn (by simp)), up_ne (fun q => by rw [q.1] at hn; exact absurd hn (by simp))]
  have hX : MX p (up I (6, s, 0) 7 0) (up (up (up I (6, s, 0) 7 0) (20, 0, 0) 0 0) (21, 4, 0) s 0) := by
    refine MX.sub hM1 (fun n j g1 g2 g3 => up_ne (fun w => g2 ⟨w.1, Or.inl w.2⟩)) (fun n j g1 g2 => ?_) ?_ hs ?_
    · rw [up_ne (fun w => g2 (by rw [w.1]; exact ⟨rfl, by simp, w.2⟩)), up_ne (fun w => g1 ⟨w.1, Or.inr w.2⟩)]
    · rw [up_ne (by simp), up_nj (by decide), up_ne (by simp), up_ne (by simp)]; exact hM.1.2.1
    · obtain ⟨m1, m2, m3, m4, m5, m6, m7, m8, m9, m10⟩ := (hM.2.1 s hs).1
      unfold MS; simp [up, m2, m3, m4, m5, m6, m7, m8, m9, m10]
  have b5 : ∀ u, up (up (up I (6, s, 0) 7 0) (20, 0, 0) 0 0) (21, 4, 0) s 0 (21, 5, 0) u = I (21, 5, 0) u := fun u => by rw [up_ne (by simp), up_ne (by simp), up_ne (by simp)]
  have live : ∀ u, up I (6, s, 0) 7 0 (6, u, 0) 7 = 0 ∨ up I (6, s, 0) 7 0 (6, u, 0) 7 = I (6, u, 0) 7 := fun u => by
    by_cases e : u = s
    · subst e; left; exact up_same _ _ _ _
    · right; exact uo 6 _ _ _ (Or.inr (Or.inl e))
  have h2 : IV p (up I (6, s, 0) 7 0) (up (up (up I (6, s, 0) 7 0) (20, 0, 0) 0 0) (21, 4, 0) s 0) t := by
    refine ⟨hw1, hX, fun i hi => ?_, fun u hu => SN.cg rfl (uo 6 _ _ _ (Or.inr (Or.inr (by decide)))) (uo 6 _ _ _ (Or.inr (Or.inr (by decide)))) (fun o => uo 10 _ _ _ (Or.inl (by decide))) (hSN u hu), fun u hu => ?_, ?_, ?_, h5⟩
    · have := hTI i hi
      unfold TI at *
      rcases live (gW p i) with e | e
      · exact Or.inl e
      · rw [e, uo 15 _ _ _ (Or.inl (by decide)), uo 15 _ _ _ (Or.inl (by decide)), uo 14 _ _ _ (Or.inl (by decide)), uo 14 _ _ _ (Or.inl (by decide))]; exact this
    · have := hTS u hu
      unfold TS at *
      rcases live u with e | e
      · exact Or.inl e
      · rw [e, uo 7 _ _ _ (Or.inl (by decide)), uo 7 _ _ _ (Or.inl (by decide)), b5]; exact this
    · rw [uo 0 _ _ _ (Or.inl (by decide))]; exact hnow
    · have e3 : ∀ u, up I (6, s, 0) 7 0 (6, u, 0) 3 = I (6, u, 0) 3 := fun u => uo 6 _ _ _ (Or.inr (Or.inr (by decide)))
      unfold OQ pr at *
      simp only [e3]; exact hOQ
  exact LI.join h2 hca (HG.cg (fun j => uo 4 _ _ _ (Or.inl (by decide))) (fun k j => uo 5 _ _ _ (Or.inl (by decide))) (fun j => uo 1 _ _ _ (Or.inl (by decide))) hG) (fun i hi => HI.cg rfl (live _) (fun j => uo 4 _ _ _ (Or.inl (by decide))) (fun k j => uo 5 _ _ _ (Or.inl (by decide))) (fun j => uo 14 _ _ _ (Or.inl (by decide))) (uo 15 _ _ _ (Or.inl (by decide))) (hH i hi)) (by rw [hC_cg (fun j => uo 4 _ _ _ (Or.inl (by decide)))]; exact hN)
/-- the numbers of the messages that stay, when one is acknowledged -/
theorem ack_SN {s q K B : Nat} (hm5 : K < 2 ^ 31) (hsn : SN p I s B) (hKe : tn (I (6, s, 0) 9) = K) (hq : q < K) : SN (setM p s (gM p s) (fgP (gP p s) q K)) (up I (6, s, 0) 9 (nI (K - 1))) s B := by
  have uo : ∀ r k z j, (r ≠ 6 ∨ k ≠ s ∨ j ≠ 9) → up I (6, s, 0) 9 (nI (K - 1)) (r, k, z) j = I (r, k, z) j := fun r k z j g => up_ne (fun q => by have := q.1; simp only [Prod.mk.injEq] at this; have := q.2; omega)
  have gPn : ∀ r, r + 1 < K → gP (setM p s (gM p s) (fgP (gP p s) q K)) s r = gP p s (ixP q r) := fun r hr => by rw [gP_s, fg_ix hr]
  obtain ⟨ln, y, n1, n2, n3, n4⟩ := hsn
  rw [hKe] at n3 n4
  refine ⟨ln, fun r => y (ixP q r), by rw [uo 6 _ _ _ (Or.inr (Or.inr (by decide)))]; exact n1, n2, ?_, ?_⟩
  · rw [up_same, tn_of (by omega)]
    intro r hr
    rw [gPn r (by omega), uo 10 _ _ _ (Or.inl (by decide))]
    exact n3 _ (ix_lt (by omega)).1
  · rw [up_same, tn_of (by omega)]
    intro r v h1 h2
    exact n4 _ _ (ix_mono h1) (ix_lt (by omega)).1
end
