/-! The small calls. -/
section
variable {N : Nat} {p : PP} {I : IF} {J : JF} {R : Int32 → Int32 → PH → Prop}
theorem L_requests (h : LI N p I) (hR : ∀ r p' I' J', LI N p' I' → R r r (S p' I' J')) : w6_requests (0, 0, 0) (S p I J) (fun r1 σ => hK σ (20, 0, 0) = 8 ∧ w7_requests (20, 0, 0) σ (fun r2 σ' => R r1 r2 σ')) := by
  have h' := h
  obtain ⟨t, ⟨hW, hM, -⟩, -⟩ := h'
  unfold w6_requests w7_requests
  refine ⟨rfl, rfl, rfl, ?_⟩
  rw [forall_eq, sI_S, hI_S, hI_S, up_nj (by decide), hM.1.2.1]
  exact hR _ _ _ _ h.thr
theorem L_tick (h : LI N p I) (hR : ∀ r p' I' J', LI N p' I' → R r r (S p' I' J')) : w6_tick (0, 0, 0) (S p I J) (fun r1 σ => hK σ (20, 0, 0) = 8 ∧ w7_tick (20, 0, 0) σ (fun r2 σ' => R r1 r2 σ')) := by
  have h' := h
  obtain ⟨t, ⟨hW, hM, -⟩, -⟩ := h'
  unfold w6_tick w7_tick
  refine ⟨rfl, rfl, rfl, ?_⟩
  rw [forall_eq, sI_S, hI_S, hI_S, up_nj (by decide), hM.1.1]
  exact hR _ _ _ _ h.thr
/-- one state out of the class's and the model's halves -/
theorem LI.join {M : Nat} {p : PP} {I' b : IF} {t : Nat} (h1 : IV p I' b t) (hca : CA I' b) (h2 : HG I' t) (h3 : ∀ i, i < gT p → HI p I' i t) (h4 : hC I' ≤ M) : LI M p b :=
  ⟨t, h1.cg hca (h1.2.1.ca hca) (fun _ => rfl), h2.ca hca, fun i hi => (h3 i hi).ca hca, by rw [hC_cg (fun j => hca _ j (show 4 < 20 by decide))]; exact h4⟩
theorem L_request (h : LI N p I) (hR : ∀ r1 r2 p' I' J', LI N p' I' → I' (20, 0, 0) 0 = r1 → (r1 = 0 → J' (22, 0, 0) 0 = r2.toInt64) → R r1 r2 (S p' I' J')) : wL_request (0, 0, 0) (22, 0, 0) (S p I J) (fun r1 σ => hK σ (20, 0, 0) = 8 ∧ w7_request (20, 0, 0) σ (fun r2 σ' => R r1 r2 σ')) := by
  have h' := h
  obtain ⟨t, hIV, hG, hH, hN⟩ := h'
  have hIV' := hIV
  obtain ⟨hW, hM, hTI, hSN, hTS, hnow, hOQ, h5⟩ := hIV'
  obtain ⟨q0, q1, q2, q3⟩ := hW.1.2.2.2.2.2.2.1
  have e35 : I (20, 0, 0) 35 = nI q0 := by rw [hM.1.2.1, q3]
  unfold wL_request w6_request
  rw [hI_S, q3]
  refine ⟨rfl, rfl, fun w => ?_, fun w => ⟨fun _ => ⟨rfl, ?_⟩, rfl⟩⟩
  · rw [show (10 : Int32) = nI 10 from rfl, nI_ltI (by omega) (by decide)] at w
    rw [forall_eq]
    refine ⟨rfl, v22, ?_⟩
    rw [forall_eq, nI_1, sI_S, hI_S, up_same, sJ_S]
    refine ⟨rfl, ?_⟩
    unfold w7_request
    rw [hI_S, up_ne (by simp), e35]
    refine ⟨rfl, fun _ => ?_, fun z => ?_⟩
    · rw [forall_eq, sI_S, hI_S, up_same]
      refine ⟨fun _ => ?_, fun z => absurd (by decide) z⟩
      have ev : up (up I (0, 0, 0) 7 (nI (q0 + 1))) (20, 0, 0) 0 0 (20, 0, 0) 35 + 1 = nI (q0 + 1) := by rw [up_nj (by decide), up_ne (by simp), e35, nI_1]
      rw [forall_eq, ev, sI_S, hI_S, up_same]
      have hb : bn (nI (q0 + 1)) 0 10 := bn_nI (by omega) (by omega)
      have hw : WF p (up I (0, 0, 0) 7 (nI (q0 + 1))) := WF_up0 hW hb
      have uo : ∀ r k z j, r ≠ 0 → up I (0, 0, 0) 7 (nI (q0 + 1)) (r, k, z) j = I (r, k, z) j := fun r k z j g => up_ne (fun q => by have := q.1; simp only [Prod.mk.injEq] at this; exact g this.1)
      have hM2 : MX p (up I (0, 0, 0) 7 (nI (q0 + 1))) (up (up (up I (0, 0, 0) 7 (nI (q0 + 1))) (20, 0, 0) 0 0) (20, 0, 0) 35 (nI (q0 + 1))) := by
        refine MX.g hM (fun r k z j g _ _ _ => uo r k z j g) (fun k j _ => by rw [up_ne (by simp), up_ne (by simp), up_ne (by simp)]) ?_
        obtain ⟨g1, g2, g3, g4, g5⟩ := hM.1
        unfold MG
        simp [up]
        exact ⟨g1, g3, g4, fun k hk => g5 k hk⟩
      have h2 : IV p (up I (0, 0, 0) 7 (nI (q0 + 1))) (up (up (up I (0, 0, 0) 7 (nI (q0 + 1))) (20, 0, 0) 0 0) (20, 0, 0) 35 (nI (q0 + 1))) t := by
        refine ⟨hw, hM2, fun i hi => ?_, fun s hs => SN.cg rfl (uo 6 _ _ _ (by decide)) (uo 6 _ _ _ (by decide)) (fun o => uo 10 _ _ _ (by decide)) (hSN s hs), fun s hs => ?_, ?_, ?_, h5⟩
        · have := hTI i hi
          unfold TI at *
          simp only [uo 6 _ _ _ (by decide), uo 14 _ _ _ (by decide), uo 15 _ _ _ (by decide)]; exact this
        · have := hTS s hs
          unfold TS at *
          rw [uo 6 _ _ _ (by decide), uo 7 _ _ _ (by decide), uo 7 _ _ _ (by decide), up_ne (by simp), up_ne (by simp), up_ne (by simp)]; exact this
        · rw [up_nj (by decide)]; exact hnow
        · unfold OQ pr at *
          simp only [uo 6 _ _ _ (by decide)]; exact hOQ
      refine hR _ _ _ _ _ (LI.join h2 (fun n j hn => ?_) (HG.cg (fun j => uo 4 _ _ _ (by decide)) (fun k j => uo 5 _ _ _ (by decide)) (fun j => uo 1 _ _ _ (by decide)) hG) (fun i hi => HI.cg rfl (Or.inr (uo 6 _ _ _ (by decide))) (fun j => uo 4 _ _ _ (by decide)) (fun k j => uo 5 _ _ _ (by decide)) (fun j => uo 14 _ _ _ (by decide)) (uo 15 _ _ _ (by decide)) (hH i hi)) (by rw [hC_cg (fun j => uo 4 _ _ _ (by decide))]; exact hN)) ?_ (fun _ => ?_)
      · rw [up_ne (fun q => by rw [q.1] at hn; exact absurd hn (by decide)), up_ne (fun q => by rw [q.1] at hn; exact absurd hn (by decide))]
      · rw [up_nj (by decide), up_same]
      · rw [show Int32.toNatClampNeg 0 = 0 from rfl, upJ_s]
    · rw [show (10 : Int32) = nI 10 from rfl, nI_eq (by omega) (by decide)] at z; omega
  · rw [show (10 : Int32) = nI 10 from rfl, nI_ltI (by omega) (by decide)] at w
    unfold w7_request
    rw [hI_S, e35]
    refine ⟨rfl, fun z => absurd ?_ z, fun _ => ?_⟩
    · rw [show (10 : Int32) = nI 10 from rfl, nI_eq (by omega) (by decide)]; omega
    · rw [forall_eq, sI_S, hI_S, up_same]
      exact ⟨fun z => absurd z (by decide), fun _ => hR _ _ _ _ _ h.thr (up_same _ _ _ _) (fun z => absurd z (by decide))⟩
end
