theorem WF_wr {p : PP} {I : IF} {k v t : Nat} (h : WF p I) (hk : k < 10) (hv : v ≤ 1000) (hc : hC I < 512) : WF p (wrA I k (hC I) (nI t) (nI v)) := by
  have uo : ∀ r z o j, r ≠ 1 ∧ r ≠ 4 ∧ r ≠ 5 → wrA I k (hC I) (nI t) (nI v) (r, z, o) j = I (r, z, o) j := fun r z o j g => wrA_o g
  obtain ⟨w1, w2, w3⟩ := h
  refine ⟨?_, fun i hi => ?_, fun u hu => ?_⟩
  · unfold W1 at *
    simp only [uo 0 _ _ _ (by decide)]
    refine ⟨w1.1, w1.2.1, w1.2.2.1, w1.2.2.2.1, fun j hj => ?_, w1.2.2.2.2.2.1, w1.2.2.2.2.2.2.1, w1.2.2.2.2.2.2.2.1, ?_⟩
    · rw [wrA_1]; split
      · exact bn_nI (Nat.zero_le _) hv
      · exact w1.2.2.2.2.1 j hj
    · rw [wrA_4]; exact bn_nI (Nat.zero_le _) (by omega)
  · have g := w2 i hi
    unfold IS at *
    simp only [uo 14 _ _ _ (by decide), uo 15 _ _ _ (by decide), uo 16 _ _ _ (by decide), uo 18 _ _ _ (by decide)]
    exact g
  · have g := w3 u hu
    unfold SS at *
    simp only [uo 6 _ _ _ (by decide), uo 7 _ _ _ (by decide), uo 10 _ _ _ (by decide), uo 13 _ _ _ (by decide)]
    exact g
section
variable {N : Nat} {p : PP} {I : IF} {J : JF} {R : Int32 → Int32 → PH → Prop}
set_option maxHeartbeats 1000000 in
theorem L_write {x y : Int32} (hN5 : N < 512) (h : LI N p I) (hR : ∀ r1 r2 p' I' J', LI (N + 1) p' I' → I' (20, 0, 0) 0 = r1 → (r1 = 0 → J' (22, 0, 0) 0 = r2.toInt64) → R r1 r2 (S p' I' J')) : wL_write (0, 0, 0) x y (22, 0, 0) (S p I J) (fun r1 σ => hK σ (20, 0, 0) = 8 ∧ w7_write (20, 0, 0) x y σ (fun r2 σ' => R r1 r2 σ')) := by
  have h' := h
  have h1 : LI (N + 1) p I := h.mono (by omega)
  obtain ⟨t, hIV, hG, hH, hN⟩ := h'
  have hIV' := hIV
  obtain ⟨hW, hM, hTI, hSN, hTS, hnow, hOQ, h5⟩ := hIV'
  unfold wL_write w6_write w6_checkNode
  refine ⟨rfl, fun q => ⟨fun _ => ⟨rfl, ?_⟩, fun w => absurd w (by decide), Or.inl rfl⟩, fun q => ⟨fun w => ?_, fun w => ⟨fun _ => ⟨rfl, ?_⟩, fun w => absurd w (by decide), Or.inl rfl⟩⟩⟩
  · -- no such node
    unfold w7_write w7_isNode
    refine m_rng (lo := 0) (hi := 9) (by decide) (by decide) (fun k _ k2 e => ?_) (fun _ => ⟨zb0, fun z => absurd rfl z, fun _ => ⟨rfl, ?_⟩⟩)
    · rw [e, nI_lt0 (by omega)] at q; exact q.elim
    · rw [forall_eq, sI_S, hI_S, up_same]
      exact ⟨fun z => absurd z (by decide), fun _ => hR _ _ _ _ _ h1.thr (up_same _ _ _ _) (fun z => absurd z (by decide))⟩
  · obtain ⟨k, hk, rfl⟩ := nI_of q
    rw [show (10 : Int32) = nI 10 from rfl, nI_ltI hk (by decide)] at w
    refine c_rng (lo := 0) (hi := 1000) (by decide) (by decide) (fun v _ v2 e => ?_) (fun hn => ⟨fun w => absurd w (by decide), fun _ => ⟨rfl, ?_⟩, Or.inr rfl⟩)
    · subst e
      refine ⟨rfl, _, rfl, rfl, vinL 10 rfl w (by decide), ?_⟩
      rw [forall_eq, sI_S, nI_clamp hk]
      refine ⟨_, rfl, rfl, ?_⟩
      rw [hI_S, hI_S, up_ne (by simp), hnow]
      refine c_record (h := hC I) (by omega) (by rw [up_ne (by simp)]; exact hG.1) ⟨rfl, v22, ?_⟩
      rw [forall_eq, sJ_S]
      refine ⟨rfl, ?_⟩
      have hcc : hC I < 512 := by omega
      obtain ⟨H1, H2, H3⟩ := H_wr (k := k) w v2 h5 hG hcc
      have uo : ∀ r z o j, r ≠ 1 ∧ r ≠ 4 ∧ r ≠ 5 → wrA I k (hC I) (nI t) (nI v) (r, z, o) j = I (r, z, o) j := fun r z o j g => wrA_o g
      have hw1 := WF_wr (t := t) hW w v2 hcc
      show w7_write (20, 0, 0) (nI k) (nI v) (S p (wrA I k (hC I) (nI t) (nI v)) (upJ J (22, 0, 0) (Int32.toNatClampNeg 0) (I (1, 0, 0) k).toInt64)) (fun r2 σ' => R 0 r2 σ')
      generalize hA : wrA I k (hC I) (nI t) (nI v) = A at H1 H2 H3 uo hw1 ⊢
      have hA1 : ∀ j, A (1, 0, 0) j = if j = k then nI v else I (1, 0, 0) j := fun j => by rw [← hA]; exact wrA_1
      unfold w7_write w7_isNode
      refine m_rng (lo := 0) (hi := 9) (by decide) (by decide) (fun _ _ _ _ => ⟨zb1, fun _ => ?_, fun z => absurd z (by decide)⟩) (fun hn => absurd rfl (hn k (Nat.zero_le _) (by omega)))
      refine m_rng (lo := 0) (hi := 1000) (by decide) (by decide) (fun _ _ _ _ => ⟨fun z => absurd z (by decide), fun _ => ⟨rfl, ?_⟩⟩) (fun hn => absurd rfl (hn v (Nat.zero_le _) v2))
      rw [forall_eq, sI_S, hI_S, up_same]
      refine ⟨fun _ => ⟨_, rfl, rfl, vinL 10 rfl w (by decide), ?_⟩, fun z => absurd (by decide) z⟩
      rw [forall_eq, nI_clamp hk, sI_S]
      have e2 : A (21, 2, 0) k = I (1, 0, 0) k := by rw [uo 21 _ _ _ (by decide)]; exact hM.1.2.2.2.2 k w
      have hX : MX p A (up (up A (20, 0, 0) 0 0) (21, 2, 0) k (nI v)) := by
        refine MX.g hM (fun r z o j g0 g4 g5 g1 => uo r z o j ⟨g1, g4, g5⟩) (fun z j g => by rw [up_ne (fun q => by have := q.1; simp only [Prod.mk.injEq] at this; omega), up_ne (by simp), uo 21 _ _ _ (by decide)]) ?_
        obtain ⟨g1, g2, g3, g4, g5⟩ := hM.1
        refine ⟨?_, ?_, ?_, ?_, fun j hj => ?_⟩
        · rw [up_ne (by simp), up_nj (by decide), uo 20 _ _ _ (by decide), uo 0 _ _ _ (by decide)]; exact g1
        · rw [up_ne (by simp), up_nj (by decide), uo 20 _ _ _ (by decide), uo 0 _ _ _ (by decide)]; exact g2
        · rw [up_ne (by simp), up_nj (by decide), uo 20 _ _ _ (by decide), uo 0 _ _ _ (by decide)]; exact g3
        · rw [up_ne (by simp), up_nj (by decide), uo 20 _ _ _ (by decide), uo 0 _ _ _ (by decide)]; exact g4
        · rw [hA1]
          by_cases e : j = k
          · subst e; rw [up_same, if_pos rfl]
          · rw [up_nj e, if_neg e, up_ne (by simp), uo 21 _ _ _ (by decide)]; exact g5 j hj
      have h2 : IV p A (up (up A (20, 0, 0) 0 0) (21, 2, 0) k (nI v)) t := by
        refine ⟨hw1, hX, fun i hi => ?_, fun u hu => SN.cg rfl (uo 6 _ _ _ (by decide)) (uo 6 _ _ _ (by decide)) (fun o => uo 10 _ _ _ (by decide)) (hSN u hu), fun u hu => ?_, ?_, ?_, h5⟩
        · have := hTI i hi
          unfold TI at *
          simp only [uo 6 _ _ _ (show 6 ≠ 1 ∧ 6 ≠ 4 ∧ 6 ≠ 5 by decide), uo 14 _ _ _ (show 14 ≠ 1 ∧ 14 ≠ 4 ∧ 14 ≠ 5 by decide), uo 15 _ _ _ (show 15 ≠ 1 ∧ 15 ≠ 4 ∧ 15 ≠ 5 by decide)]; exact this
        · have := hTS u hu
          unfold TS at *
          rw [uo 6 _ _ _ (by decide), uo 7 _ _ _ (by decide), uo 7 _ _ _ (by decide), up_ne (by simp), up_ne (by simp), uo 21 _ _ _ (by decide)]; exact this
        · rw [uo 0 _ _ _ (by decide)]; exact hnow
        · unfold OQ pr at *
          simp only [uo 6 _ _ _ (show 6 ≠ 1 ∧ 6 ≠ 4 ∧ 6 ≠ 5 by decide)]; exact hOQ
      refine hR _ _ _ _ _ (LI.join h2 (fun n j hn => ?_) H1 (fun i hi => H3 i (hH i hi)) (by rw [H2]; omega)) ?_ (fun _ => ?_)
      · rw [up_ne (fun q => by rw [q.1] at hn; exact absurd hn (by simp)), up_ne (fun q => by rw [q.1] at hn; exact absurd hn (by simp))]
      · rw [up_ne (by simp), up_same]
      · rw [show Int32.toNatClampNeg 0 = 0 from rfl, upJ_s, up_ne (by simp), e2]
    · unfold w7_write w7_isNode
      refine m_rng (lo := 0) (hi := 9) (by decide) (by decide) (fun _ _ _ _ => ⟨zb1, fun _ => ?_, fun z => absurd z (by decide)⟩) (fun hn => absurd rfl (hn k (Nat.zero_le _) (by omega)))
      refine m_rng (lo := 0) (hi := 1000) (by decide) (by decide) (fun v v1 v2 e => absurd e (hn v v1 v2)) (fun _ => ⟨fun _ => ⟨rfl, ?_⟩, fun z => absurd rfl z⟩)
      rw [forall_eq, sI_S, hI_S, up_same]
      exact ⟨fun z => absurd z (by decide), fun _ => hR _ _ _ _ _ h1.thr (up_same _ _ _ _) (fun z => absurd z (by decide))⟩
  · unfold w7_write w7_isNode
    refine m_rng (lo := 0) (hi := 9) (by decide) (by decide) (fun k _ k2 e => ?_) (fun _ => ⟨zb0, fun z => absurd rfl z, fun _ => ⟨rfl, ?_⟩⟩)
    · rw [e, show (10 : Int32) = nI 10 from rfl, nI_ltI (by omega) (by decide)] at w; omega
    · rw [forall_eq, sI_S, hI_S, up_same]
      exact ⟨fun z => absurd z (by decide), fun _ => hR _ _ _ _ _ h1.thr (up_same _ _ _ _) (fun z => absurd z (by decide))⟩
end
