theorem OQ.ok {p : PP} {a : IF} (h : OQ p a) : OK p := by
  obtain ⟨pos, -, o2, -⟩ := h
  exact fun t ht => (o2 t ht).1
set_option maxHeartbeats 1000000 in
theorem L_pass {N : Nat} {p : PP} {I : IF} {J : JF} {R : Int32 → Int32 → PH → Prop} {x : Int32} (h : LI N p I) (hR : ∀ r1 r2 p' I' J', LI N p' I' → I' (20, 0, 0) 0 = r1 → (r1 = 0 → J' (22, 0, 0) 0 = r2.toInt64) → R r1 r2 (S p' I' J')) : wL_pass (0, 0, 0) x (22, 0, 0) (S p I J) (fun r1 σ => hK σ (20, 0, 0) = 8 ∧ w7_pass (20, 0, 0) x σ (fun r2 σ' => R r1 r2 σ')) := by
  have h' := h
  obtain ⟨t, hIV, hG, hH, hN⟩ := h'
  have hIV' := hIV
  obtain ⟨hW, hM, hTI, hSN, hTS, hnow, hOQ, h5⟩ := hIV'
  have hO := hOQ.ok
  have bad : ∀ (P : PP) (J : JF), (∀ k, 1 ≤ k → k ≤ 50 → x ≠ nI k) → w7_pass (20, 0, 0) x (S P I J) (fun r2 σ' => R 1 r2 σ') → True := fun _ _ _ _ => trivial
  unfold wL_pass w6_pass
  refine ⟨rfl, (show (14 : Nat) ≠ 0 by decide), ?_⟩
  refine c_rng (lo := 1) (hi := 50) (by decide) (by decide) (fun n n1 n2 e => ⟨rfl, fun q => ?_, fun q => ?_⟩) (fun hn => ⟨fun _ => ⟨rfl, ?_⟩, fun w => absurd w (by decide), Or.inl rfl⟩)
  · subst e
    rw [hI_S, hnow, show (5000 : Int32) = nI 5000 from rfl, nI_sub h5, nI_leI (by omega) (by omega)] at q
    refine ⟨n + 1, by omega, ?_⟩
    refine c_passL (t0 := t) hW hO hnow (by omega) (fun p' a' c J' y hP => ?_) n 0 p I 0 J (by omega) ⟨rfl, rfl, rfl⟩
    refine ⟨rfl, v22, ?_⟩
    rw [forall_eq, sJ_S]
    refine ⟨rfl, ?_⟩
    unfold w7_pass
    refine m_rng (lo := 1) (hi := 50) (by decide) (by decide) (fun k k1 k2 e => ?_) (fun hn => absurd rfl (hn n n1 n2))
    have hcb : CB I a' := fun m j hm => PS_o (Or.inr (Or.inr (Or.inr hm))) _ _ _ _ hP
    have hMa : MX p I a' := hM.cb hcb
    have e1 : a' (20, 0, 0) 1 = nI t := by rw [hMa.1.1, hnow]
    refine ⟨fun _ => ⟨rfl, fun _ => ?_, fun w => absurd ?_ w⟩, fun z => absurd z (by decide)⟩
    · rw [forall_eq, sI_S]
      refine ⟨n + 1, ?_⟩
      have h0 : IV p I (up a' (20, 0, 0) 0 0) t := hIV.cg (fun _ _ _ => rfl) hMa.thr (fun s => by rw [up_ne (by simp)]; exact hcb _ _ (show 20 ≤ 21 by decide))
      refine m_passRun h0 (by omega) (up_same _ _ _ _) hP (fun b' z k1 k2 => ?_)
      have hca : CA a' b' := fun m j hm => by rw [k2 m j (Or.inl hm), up_ne (fun w => by rw [w.1] at hm; exact absurd hm (by decide))]
      obtain ⟨f1, f2, f3⟩ := H_PS hW hO hnow hTI hG hH n p' a' c (by omega) hP
      obtain ⟨-, g2, -⟩ := PS_ok hW hO hnow n p' a' c (by omega) hP
      refine hR _ _ _ _ _ ⟨t + n, k1.cg hca (k1.2.1.ca hca) (fun _ => rfl), f2.ca hca, fun i hi => (f3 i (by rw [← g2.2.1]; exact hi)).ca hca, ?_⟩ ?_ (fun _ => ?_)
      · rw [hC_cg (fun j => hca _ j (show 4 < 20 by decide)), hC_cg (fun j => PS_o (Or.inl rfl) _ _ _ _ hP)]; exact hN
      · rw [k2 _ _ (Or.inr (Or.inl ⟨rfl, rfl⟩)), up_same]
      · rw [show Int32.toNatClampNeg 0 = 0 from rfl, upJ_s]
    · rw [hI_S, e1, nI_add, show (5000 : Int32) = nI 5000 from rfl, nI_leI (by omega) (by omega)]; omega
  · subst e
    rw [hI_S, hnow, show (5000 : Int32) = nI 5000 from rfl, nI_sub h5, nI_leI (by omega) (by omega)] at q
    refine ⟨fun w => absurd w (by decide), fun _ => ⟨rfl, ?_⟩, Or.inr rfl⟩
    unfold w7_pass
    refine m_rng (lo := 1) (hi := 50) (by decide) (by decide) (fun k k1 k2 e => ?_) (fun hn => absurd rfl (hn n n1 n2))
    refine ⟨fun _ => ⟨rfl, fun w => absurd w ?_, fun _ => ?_⟩, fun z => absurd z (by decide)⟩
    · rw [hI_S, hM.1.1, hnow, nI_add, show (5000 : Int32) = nI 5000 from rfl, nI_leI (by omega) (by omega)]; omega
    · rw [forall_eq, sI_S]
      exact ⟨1, m_pass0 (by rw [up_same]; decide) (hR _ _ _ _ _ h.thr (up_same _ _ _ _) (fun z => absurd z (by decide)))⟩
  · unfold w7_pass
    refine m_rng (lo := 1) (hi := 50) (by decide) (by decide) (fun k k1 k2 e => absurd e (hn k k1 k2)) (fun _ => ⟨fun z => absurd rfl z, fun _ => ⟨rfl, ?_⟩⟩)
    rw [forall_eq, sI_S]
    exact ⟨1, m_pass0 (by rw [up_same]; decide) (hR _ _ _ _ _ h.thr (up_same _ _ _ _) (fun z => absurd z (by decide)))⟩
