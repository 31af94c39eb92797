/-! What holds between two calls of the law; the calls that ask. -/
def LI (N : Nat) (p : PP) (I : IF) : Prop := ∃ t, IV p I I t ∧ HG I t ∧ (∀ i, i < gT p → HI p I i t) ∧ hC I ≤ N
theorem IV.cg {p : PP} {a a' b b' : IF} {t : Nat} (h : IV p a b t) (g : CA a a') (hM : MX p a' b') (h5 : ∀ s, b' (21, 5, 0) s = b (21, 5, 0) s) : IV p a' b' t := by
  have al : ∀ r k z j, r < 20 → a' (r, k, z) j = a (r, k, z) j := fun r k z j q => g _ j q
  obtain ⟨h1, -, h3, h4, h6, h7, h8, h9⟩ := h
  refine ⟨h1.ca g, hM, fun i hi => ?_, fun s hs => ?_, fun s hs => ?_, ?_, ?_, h9⟩
  · have := h3 i hi
    unfold TI at *
    simp only [al 6 _ _ _ (by decide), al 14 _ _ _ (by decide), al 15 _ _ _ (by decide)]; exact this
  · exact SN.cg rfl (al 6 _ _ _ (by decide)) (al 6 _ _ _ (by decide)) (fun o => al 10 _ _ _ (by decide)) (h4 s hs)
  · have := h6 s hs
    unfold TS at *
    simp only [al 6 _ _ _ (by decide), al 7 _ _ _ (by decide), h5]; exact this
  · rw [al 0 _ _ _ (by decide)]; exact h7
  · unfold OQ pr at *
    simp only [al 6 _ _ _ (by decide)]; exact h8
theorem HG.ca {a a' : IF} {t : Nat} (h : HG a t) (g : CA a a') : HG a' t := HG.cg (fun j => g _ j (show 4 < 20 by decide)) (fun k j => g _ j (show 5 < 20 by decide)) (fun j => g _ j (show 1 < 20 by decide)) h
theorem HI.ca {p : PP} {a a' : IF} {i t : Nat} (h : HI p a i t) (g : CA a a') : HI p a' i t := HI.cg rfl (Or.inr (g _ _ (show 6 < 20 by decide))) (fun j => g _ j (show 4 < 20 by decide)) (fun k j => g _ j (show 5 < 20 by decide)) (fun j => g _ j (show 14 < 20 by decide)) (g _ _ (show 15 < 20 by decide)) h
theorem MX.thr {p : PP} {a b : IF} {v : Int32} (h : MX p a b) : MX p a (up b (20, 0, 0) 0 v) := by
  refine MX.g h (fun _ _ _ _ _ _ _ _ => rfl) (fun k j _ => up_ne (by simp)) ?_
  have g := h.1
  unfold MG at *
  rw [up_nj (by decide), up_nj (by decide), up_nj (by decide), up_nj (by decide)]
  refine ⟨g.1, g.2.1, g.2.2.1, g.2.2.2.1, fun k hk => ?_⟩
  rw [up_ne (by simp)]; exact g.2.2.2.2 k hk
theorem CA_thr {a : IF} {v : Int32} : CA a (up a (20, 0, 0) 0 v) := fun n j h => up_ne (fun q => by rw [q.1] at h; exact absurd h (by decide))
theorem LI.thr {N : Nat} {p : PP} {I : IF} {v : Int32} (h : LI N p I) : LI N p (up I (20, 0, 0) 0 v) := by
  obtain ⟨t, h1, h2, h3, h4⟩ := h
  refine ⟨t, h1.cg CA_thr ((MX.thr h1.2.1).ca CA_thr) (fun s => up_ne (by simp)), h2.ca CA_thr, fun i hi => (h3 i hi).ca CA_thr, ?_⟩
  rw [hC_cg (fun j => up_ne (by simp))]; exact h4
theorem LI.mono {N M : Nat} {p : PP} {I : IF} (h : LI N p I) (g : N ≤ M) : LI M p I := by
  obtain ⟨t, h1, h2, h3, h4⟩ := h
  exact ⟨t, h1, h2, h3, by omega⟩
section
variable {N : Nat} {p : PP} {I : IF} {J : JF} {R : Int32 → Int32 → PH → Prop}
end
