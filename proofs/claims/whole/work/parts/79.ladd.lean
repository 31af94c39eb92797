/-! add: the call. -/
section
variable {N : Nat} {p : PP} {I : IF} {J : JF} {R : Int32 → Int32 → PH → Prop}
theorem L_add {p1 p2 p3 p4 p5 p6 : Int32} (hz : zb p5) (h : LI N p I) (hR : ∀ r1 r2 p' I' J', LI N p' I' → I' (20, 0, 0) 0 = r1 → (r1 = 0 → J' (22, 0, 0) 0 = r2.toInt64) → R r1 r2 (S p' I' J')) : wL_add (0, 0, 0) p1 p2 p3 p4 p5 p6 (22, 0, 0) (S p I J) (fun r1 σ => hK σ (20, 0, 0) = 8 ∧ w7_add (20, 0, 0) p1 p2 p3 p4 p5 p6 σ (fun r2 σ' => R r1 r2 σ')) := by
  have h' := h
  obtain ⟨t, ⟨hW, hM, hTI, hSN, hTS, hnow, hOQ, h5⟩, -⟩ := h'
  have h16 := hW.1.2.2.2.1
  have h4 := hW.1.2.1
  unfold wL_add
  refine ⟨rfl, by rw [hK_S, kq22]; decide, c_add hW hz (fun g => ⟨fun _ => ⟨rfl, ?_⟩, fun w => absurd w nIA, fun w => absurd w (by decide), Or.inl rfl⟩) (fun g g2 => ⟨fun w => absurd w nAI, fun _ => ⟨rfl, ?_⟩, fun w => absurd w nAS, Or.inr (Or.inl rfl)⟩) (fun g g2 g3 => ⟨fun w => absurd w (by decide), fun w => absurd w nSA, fun _ => ⟨rfl, ?_⟩, Or.inr (Or.inr rfl)⟩) (fun g g2 hi s nd sz hs e1 l hnd e2 s1 s4 e4 I2 J2 f => ⟨rfl, v22, ?_⟩)⟩
  · exact m_add hW hM hz (fun _ => hR _ _ _ _ _ h.thr (up_same _ _ _ _) (fun w => absurd w (by decide))) (fun q => absurd q g) (fun q => absurd q g) (fun q => absurd q g)
  · exact m_add hW hM hz (fun q => absurd g q) (fun _ _ => hR _ _ _ _ _ h.thr (up_same _ _ _ _) (fun w => absurd w (by decide))) (fun _ q => absurd q g2) (fun _ q => absurd q g2)
  · exact m_add hW hM hz (fun q => absurd g q) (fun _ q => absurd g2 q) (fun _ _ _ => hR _ _ _ _ _ h.thr (up_same _ _ _ _) (fun w => absurd w (by decide))) (fun _ _ w => by omega)
  · rw [forall_eq, sJ_S]
    refine ⟨rfl, ?_⟩
    have f' := f
    obtain ⟨-, -, -, -, -, ff⟩ := f'
    have hM1 : MX p I (adC I I2 (gT p) nd sz p5) := hM.cb (fun n j hn => by
      obtain ⟨r, k, z⟩ := n
      have hn' : 20 ≤ r := hn
      have n14 : ¬ ((r, k, z) : Nm) = (14, gT p, 0) := fun q => by simp only [Prod.mk.injEq] at q; omega
      rw [adC, enq_o (show k ≠ gT p ∨ r < 14 ∨ 18 < r by omega), adB, up_ne (fun q => n14 q.1), up_ne (fun q => n14 q.1)]
      exact ff _ j (fun q => by simp only [Prod.mk.injEq] at q; omega) (fun q => by simp only [Prod.mk.injEq] at q; omega) (fun q => by simp only [Prod.mk.injEq] at q; omega) (fun q => by simp only [Prod.mk.injEq] at q; omega) (fun q => by simp only [Prod.mk.injEq] at q; omega) (fun q => by have := q.1; simp only [Prod.mk.injEq] at this; omega) (fun q => by have := q.1; simp only [Prod.mk.injEq] at this; omega))
    refine m_add hW hM1 hz (fun q => absurd g q) (fun _ q => absurd g2 q) (fun _ _ w => by omega) (fun _ _ _ b b16 b17 b18 b19 b20 b21 b22 b23 b15 b0 bf => ?_)
    rw [e1] at b16
    obtain ⟨r1, r2, r3, r4, r5⟩ := add_LI h hz hs hnd e2 s1 s4 e4 g2.1 g2.2.2 hi f b16 b17 b18 b19 b20 b21 b22 b23 b15 bf
    refine m_samples (nd := nd) (sz := sz) (c := 0) hi hnd (by rw [b17, e2]) r4 r1 s1 s4 (Nat.zero_le _) r2 (by rw [b20, e4]) b21 (fun w => absurd ?_ w) (fun _ => ?_)
    · rw [r3]; decide
    · refine hR _ _ _ _ _ r5 ?_ (fun _ => upJ_s _ _ _ _)
      rw [FR_enqR (20, 0, 0) 0 (by simp)]; exact b0
end
