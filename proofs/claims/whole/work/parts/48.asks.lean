/-! What holds between two calls of the law; the calls that ask. -/
def LI (N : Nat) (p : PP) (I : IF) : Prop := ∃ t, IV p I I t ∧ HG I t ∧ (∀ i, i < gT p → HI p I i t) ∧ hC I ≤ N
theorem IV.cg {p : PP} {a a' b b' : IF} {t : Nat} (h : IV p a b t) (g : CA a a') (hM : MX p a' b') (h5 : ∀ s, b' (21, 5, 0) s = b (21, 5, 0) s) : IV p a' b' t := by
  have al : ∀ r k z j, r < 20 → a' (r, k, z) j = a (r, k, z) j := fun r k z j q => g _ j q
  obtain ⟨h1, -, h3, h4, h6, h7, h8, h9⟩ := h
  refine ⟨h1.ca g, hM, fun i hi => ?_, fun s hs => ?_, fun s hs => ?_, ?_, ?_, h9⟩
  · have := h3 i hi
    unfold TI at *
    simp only [al 6 _ _ _ (by decide), al 14 _ _ _ (by decide), al 15 _ _ _ (by decide)]; exact this
  · exact SN.cg rfl (al 6 _ _ _ (by decide)) (al 6 _ _ _ (by decide)) (fun o => al 10 _ _ _ (by decide)) (h4 s hs)
  · have := h6 s hs
    unfold TS at *
    simp only [al 6 _ _ _ (by decide), al 7 _ _ _ (by decide), h5]; exact this
  · rw [al 0 _ _ _ (by decide)]; exact h7
  · unfold OQ pr at *
    simp only [al 6 _ _ _ (by decide)]; exact h8
theorem HG.ca {a a' : IF} {t : Nat} (h : HG a t) (g : CA a a') : HG a' t := HG.cg (fun j => g _ j (show 4 < 20 by decide)) (fun k j => g _ j (show 5 < 20 by decide)) (fun j => g _ j (show 1 < 20 by decide)) h
theorem HI.ca {p : PP} {a a' : IF} {i t : Nat} (h : HI p a i t) (g : CA a a') : HI p a' i t := HI.cg rfl (Or.inr (g _ _ (show 6 < 20 by decide))) (fun j => g _ j (show 4 < 20 by decide)) (fun k j => g _ j (show 5 < 20 by decide)) (fun j => g _ j (show 14 < 20 by decide)) (g _ _ (show 15 < 20 by decide)) h
theorem MX.thr {p : PP} {a b : IF} {v : Int32} (h : MX p a b) : MX p a (up b (20, 0, 0) 0 v) := by
  refine MX.g h (fun _ _ _ _ _ _ _ _ => rfl) (fun k j _ => up_ne (by simp)) ?_
  have g := h.1
  unfold MG at *
  rw [up_nj (by decide), up_nj (by decide), up_nj (by decide), up_nj (by decide)]
  refine ⟨g.1, g.2.1, g.2.2.1, g.2.2.2.1, fun k hk => ?_⟩
  rw [up_ne (by simp)]; exact g.2.2.2.2 k hk
theorem CA_thr {a : IF} {v : Int32} : CA a (up a (20, 0, 0) 0 v) := fun n j h => up_ne (fun q => by rw [q.1] at h; exact absurd h (by decide))
theorem LI.thr {N : Nat} {p : PP} {I : IF} {v : Int32} (h : LI N p I) : LI N p (up I (20, 0, 0) 0 v) := by
  obtain ⟨t, h1, h2, h3, h4⟩ := h
  refine ⟨t, h1.cg CA_thr ((MX.thr h1.2.1).ca CA_thr) (fun s => up_ne (by simp)), h2.ca CA_thr, fun i hi => (h3 i hi).ca CA_thr, ?_⟩
  rw [hC_cg (fun j => up_ne (by simp))]; exact h4
theorem LI.mono {N M : Nat} {p : PP} {I : IF} (h : LI N p I) (g : N ≤ M) : LI M p I := by
  obtain ⟨t, h1, h2, h3, h4⟩ := h
  exact ⟨t, h1, h2, h3, by omega⟩
theorem upJ_s (J : JF) (n : Nm) (j : Nat) (v : Int64) : upJ J n j v n j = v := if_pos ⟨rfl, rfl⟩
theorem v22 {p : PP} {I : IF} {J : JF} : vp_in 0 (hL (S p I J) (22, 0, 0)) := vinL (i := 0) 1 rfl (by decide) (by decide)
section
variable {N : Nat} {p : PP} {I : IF} {J : JF} {R : Int32 → Int32 → PH → Prop}
theorem L_latest {x : Int32} (h : LI N p I) (hR : ∀ r1 r2 p' I' J', LI N p' I' → I' (20, 0, 0) 0 = r1 → (r1 = 0 → J' (22, 0, 0) 0 = r2.toInt64) → R r1 r2 (S p' I' J')) : wL_latest (0, 0, 0) x (22, 0, 0) (S p I J) (fun r1 σ => hK σ (20, 0, 0) = 8 ∧ w7_latest (20, 0, 0) x σ (fun r2 σ' => R r1 r2 σ')) := by
  have h' := h
  obtain ⟨t, ⟨hW, hM, -⟩, -⟩ := h'
  have h4 := hW.1.2.1
  unfold wL_latest w6_latest
  refine ⟨rfl, rfl, c_openS hW (fun s hs e l => ⟨_, rfl, kq6 hs, rfl, v22, ?_⟩) (fun hn => ⟨fun _ => ⟨rfl, ?_⟩, rfl⟩)⟩
  · rw [forall_eq, sJ_S]
    refine ⟨rfl, ?_⟩
    unfold w7_latest
    refine ⟨rfl, m_asks hW hM (fun u hu e2 _ => ⟨fun z => absurd z (by decide), fun _ => ?_⟩) (fun hn => absurd (hn s hs e) l)⟩
    subst e
    have : s = u := (nI_eq (by omega) (by omega)).mp e2
    subst this
    refine ⟨_, rfl, rfl, vinL 4 rfl (by omega) (by decide), ?_⟩
    refine hR _ _ _ _ _ h.thr (up_same _ _ _ _) (fun _ => ?_)
    rw [show Int32.toNatClampNeg 0 = 0 from rfl, upJ_s, hI_S, hI_S, nI_clamp (by omega), up_ne (by simp)]
    exact congrArg Int32.toInt64 (hM.2.1 s hs).1.2.2.2.2.2.2.2.2.1.symm
  · unfold w7_latest
    refine ⟨rfl, m_asks hW hM (fun u hu e2 l => absurd (hn u hu e2) l) (fun _ => ⟨fun _ => ?_, fun z => absurd rfl z⟩)⟩
    exact hR _ _ _ _ _ h.thr (up_same _ _ _ _) (fun z => absurd z (by decide))
theorem L_keepAlives {x : Int32} (h : LI N p I) (hR : ∀ r1 r2 p' I' J', LI N p' I' → I' (20, 0, 0) 0 = r1 → (r1 = 0 → J' (22, 0, 0) 0 = r2.toInt64) → R r1 r2 (S p' I' J')) : wL_keepAlives (0, 0, 0) x (22, 0, 0) (S p I J) (fun r1 σ => hK σ (20, 0, 0) = 8 ∧ w7_keepAlives (20, 0, 0) x σ (fun r2 σ' => R r1 r2 σ')) := by
  have h' := h
  obtain ⟨t, ⟨hW, hM, -⟩, -⟩ := h'
  have h4 := hW.1.2.1
  unfold wL_keepAlives w6_keepAlives
  refine ⟨rfl, rfl, c_openS hW (fun s hs e l => ⟨_, rfl, kq6 hs, rfl, v22, ?_⟩) (fun hn => ⟨fun _ => ⟨rfl, ?_⟩, rfl⟩)⟩
  · rw [forall_eq, sJ_S]
    refine ⟨rfl, ?_⟩
    unfold w7_keepAlives
    refine ⟨rfl, m_asks hW hM (fun u hu e2 _ => ⟨fun z => absurd z (by decide), fun _ => ?_⟩) (fun hn => absurd (hn s hs e) l)⟩
    subst e
    have : s = u := (nI_eq (by omega) (by omega)).mp e2
    subst this
    refine ⟨_, rfl, rfl, vinL 4 rfl (by omega) (by decide), ?_⟩
    refine hR _ _ _ _ _ h.thr (up_same _ _ _ _) (fun _ => ?_)
    rw [show Int32.toNatClampNeg 0 = 0 from rfl, upJ_s, hI_S, hI_S, nI_clamp (by omega), up_ne (by simp)]
    exact congrArg Int32.toInt64 (hM.2.1 s hs).1.2.2.2.2.2.2.2.2.2.symm
  · unfold w7_keepAlives
    refine ⟨rfl, m_asks hW hM (fun u hu e2 l => absurd (hn u hu e2) l) (fun _ => ⟨fun _ => ?_, fun z => absurd rfl z⟩)⟩
    exact hR _ _ _ _ _ h.thr (up_same _ _ _ _) (fun z => absurd z (by decide))
theorem L_waiting {x : Int32} (h : LI N p I) (hR : ∀ r1 r2 p' I' J', LI N p' I' → I' (20, 0, 0) 0 = r1 → (r1 = 0 → J' (22, 0, 0) 0 = r2.toInt64) → R r1 r2 (S p' I' J')) : wL_waiting (0, 0, 0) x (22, 0, 0) (S p I J) (fun r1 σ => hK σ (20, 0, 0) = 8 ∧ w7_waiting (20, 0, 0) x σ (fun r2 σ' => R r1 r2 σ')) := by
  have h' := h
  obtain ⟨t, ⟨hW, hM, -⟩, -⟩ := h'
  have h16 := hW.1.2.2.2.1
  unfold wL_waiting w6_waiting
  refine ⟨rfl, rfl, c_liveI hW (fun s hs e l => ⟨_, rfl, kq14 hs, _, rq145 hs, kq16 hs, rfl, v22, ?_⟩) (fun hn => ⟨fun _ => ⟨rfl, ?_⟩, rfl⟩)⟩
  · rw [forall_eq, sJ_S]
    refine ⟨rfl, ?_⟩
    unfold w7_waiting
    refine ⟨rfl, m_asksI hW hM (fun u hu e2 _ => ⟨fun z => absurd z (by decide), fun _ => ?_⟩) (fun hn => absurd (hn s hs e) l)⟩
    subst e
    have : s = u := (nI_eq (by omega) (by omega)).mp e2
    subst this
    refine ⟨_, rfl, rfl, vinL 16 rfl (by omega) (by decide), ?_⟩
    refine hR _ _ _ _ _ h.thr (up_same _ _ _ _) (fun _ => ?_)
    rw [show Int32.toNatClampNeg 0 = 0 from rfl, upJ_s, hI_S, hI_S, nI_clamp (by omega), up_ne (by simp)]
    exact congrArg Int32.toInt64 (hM.2.2.1 s hs).2.2.2.2.2.2.2.2.2.2.2.1.symm
  · unfold w7_waiting
    refine ⟨rfl, m_asksI hW hM (fun u hu e2 l => absurd (hn u hu e2) l) (fun _ => ⟨fun _ => ?_, fun z => absurd rfl z⟩)⟩
    exact hR _ _ _ _ _ h.thr (up_same _ _ _ _) (fun z => absurd z (by decide))
theorem L_queued {x : Int32} (h : LI N p I) (hR : ∀ r1 r2 p' I' J', LI N p' I' → I' (20, 0, 0) 0 = r1 → (r1 = 0 → J' (22, 0, 0) 0 = r2.toInt64) → R r1 r2 (S p' I' J')) : wL_queued (0, 0, 0) x (22, 0, 0) (S p I J) (fun r1 σ => hK σ (20, 0, 0) = 8 ∧ w7_queued (20, 0, 0) x σ (fun r2 σ' => R r1 r2 σ')) := by
  have h' := h
  obtain ⟨t, ⟨hW, hM, -⟩, -⟩ := h'
  have h16 := hW.1.2.2.2.1
  unfold wL_queued w6_queued
  refine ⟨rfl, rfl, c_liveI hW (fun s hs e l => ⟨_, rfl, kq14 hs, rfl, v22, ?_⟩) (fun hn => ⟨fun _ => ⟨rfl, ?_⟩, rfl⟩)⟩
  · rw [forall_eq, sJ_S]
    refine ⟨rfl, ?_⟩
    unfold w7_queued
    refine ⟨rfl, m_asksI hW hM (fun u hu e2 _ => ⟨fun z => absurd z (by decide), fun _ => ?_⟩) (fun hn => absurd (hn s hs e) l)⟩
    subst e
    have : s = u := (nI_eq (by omega) (by omega)).mp e2
    subst this
    refine ⟨_, rfl, rfl, vinL 16 rfl (by omega) (by decide), ?_⟩
    refine hR _ _ _ _ _ h.thr (up_same _ _ _ _) (fun _ => ?_)
    rw [show Int32.toNatClampNeg 0 = 0 from rfl, upJ_s, hI_S, hI_S, nI_clamp (by omega), up_ne (by simp)]
    exact congrArg Int32.toInt64 (hM.2.2.1 s hs).2.2.2.2.2.2.2.2.2.2.1.symm
  · unfold w7_queued
    refine ⟨rfl, m_asksI hW hM (fun u hu e2 l => absurd (hn u hu e2) l) (fun _ => ⟨fun _ => ?_, fun z => absurd rfl z⟩)⟩
    exact hR _ _ _ _ _ h.thr (up_same _ _ _ _) (fun z => absurd z (by decide))
end
