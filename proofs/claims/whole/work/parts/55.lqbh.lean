theorem L_queuedByHistory {N : Nat} {p : PP} {I : IF} {J : JF} {R : Int32 → Int32 → PH → Prop} {x : Int32} (hN5 : N ≤ 512) (h : LI N p I) (hR : ∀ r1 r2 p' I' J', LI N p' I' → I' (20, 0, 0) 0 = r1 → (r1 = 0 → J' (22, 0, 0) 0 = r2.toInt64) → R r1 r2 (S p' I' J')) : wL_queuedByHistory (0, 0, 0) x (22, 0, 0) (S p I J) (fun r1 σ => hK σ (20, 0, 0) = 8 ∧ w7_queuedByHistory (20, 0, 0) x σ (fun r2 σ' => R r1 r2 σ')) := by
  have h' := h
  obtain ⟨t, ⟨hW, hM, hTI, hSN, hTS, hnow, hOQ, h5⟩, hG, hH, hN⟩ := h'
  have h16 := hW.1.2.2.2.1
  unfold wL_queuedByHistory w6_queuedByHistory
  refine ⟨rfl, rfl, c_liveI hW (fun s hs e l => ⟨_, rfl, _, rfl, rfl, ?_⟩) (fun hn => ⟨fun _ => ⟨rfl, ?_⟩, rfl⟩)⟩
  · rw [hI_S, hnow]
    refine c_count hW hs hG (by omega) h5 l (hTI s hs) (hH s hs) ⟨rfl, v22, ?_⟩
    rw [forall_eq, sJ_S]
    refine ⟨rfl, ?_⟩
    unfold w7_queuedByHistory
    refine ⟨rfl, m_asksI hW hM (fun u hu e2 _ => ⟨fun z => absurd z (by decide), fun _ => ?_⟩) (fun hn => absurd (hn s hs e) l)⟩
    subst e
    have : s = u := (nI_eq (by omega) (by omega)).mp e2
    subst this
    refine ⟨_, rfl, rfl, vinL 16 rfl (by omega) (by decide), ?_⟩
    refine hR _ _ _ _ _ h.thr (up_same _ _ _ _) (fun _ => ?_)
    rw [show Int32.toNatClampNeg 0 = 0 from rfl, upJ_s, hI_S, nI_clamp (by omega), up_ne (by simp)]
    exact congrArg Int32.toInt64 (hM.2.2.1 s hs).2.2.2.2.2.2.2.2.2.2.1.symm
  · unfold w7_queuedByHistory
    refine ⟨rfl, m_asksI hW hM (fun u hu e2 l => absurd (hn u hu e2) l) (fun _ => ⟨fun _ => ?_, fun z => absurd rfl z⟩)⟩
    exact hR _ _ _ _ _ h.thr (up_same _ _ _ _) (fun z => absurd z (by decide))
