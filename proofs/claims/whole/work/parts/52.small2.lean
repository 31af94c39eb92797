section
variable {N : Nat} {p : PP} {I : IF} {J : JF} {R : Int32 → Int32 → PH → Prop}
theorem L_isOpen {x : Int32} (h : LI N p I) (hR : ∀ r1 r2 p' I' J', LI N p' I' → I' (20, 0, 0) 0 = r1 → (r1 = 0 → (r2 = 0 → J' (22, 0, 0) 0 = 0) ∧ (r2 ≠ 0 → J' (22, 0, 0) 0 = 1)) → R r1 r2 (S p' I' J')) : wL_isOpen (0, 0, 0) x (22, 0, 0) (S p I J) (fun r1 σ => hK σ (20, 0, 0) = 8 ∧ w7_isOpen (20, 0, 0) x σ (fun r2 σ' => R r1 r2 σ')) := by
  have h' := h
  obtain ⟨t, ⟨hW, hM, -⟩, -⟩ := h'
  have h4 := hW.1.2.1
  have mo : ∀ (J : JF) (k : Nat), k ≤ 3 → ((∃ s, s < gS p ∧ nI k = nI s ∧ I (6, s, 0) 7 ≠ 0) → R 0 1 (S p (up I (20, 0, 0) 0 0) J)) → ((∀ s, s < gS p → nI k = nI s → I (6, s, 0) 7 = 0) → R 0 0 (S p (up I (20, 0, 0) 0 0) J)) → w7_isOpen (20, 0, 0) (nI k) (S p I J) (fun r2 σ' => R 0 r2 σ') := by
    intro J k hk g1 g2
    unfold w7_isOpen
    refine m_rng (lo := 0) (hi := 3) (by decide) (by decide) (fun _ _ _ _ => ⟨fun z => absurd z (by decide), fun _ => ⟨rfl, ?_⟩⟩) (fun hn => absurd rfl (hn k (Nat.zero_le _) hk))
    rw [forall_eq, sI_S, hI_S, up_same]
    refine ⟨fun z => absurd rfl z, fun _ => m_isSub hW hM.thr (fun s hs e l => ⟨fun z => absurd z (by decide), fun _ => g1 ⟨s, hs, e, l⟩⟩) (fun hn => ⟨fun _ => g2 hn, fun z => absurd rfl z⟩)⟩
  unfold wL_isOpen w6_isOpen
  refine ⟨rfl, c_rng (lo := 0) (hi := 3) (by decide) (by decide) (fun k _ k2 e => ⟨rfl, _, rfl, rfl, ?_, ?_⟩) (fun hn => ⟨fun _ => ⟨rfl, ?_⟩, rfl⟩)⟩
  · subst e; exact vinL 4 rfl (by omega) (by decide)
  · subst e
    rw [hR_S, nI_clamp (by omega)]
    have zero : (∀ s, s < gS p → nI k = nI s → I (6, s, 0) 7 = 0) → R 0 0 (S p (up I (20, 0, 0) 0 0) (upJ J (22, 0, 0) 0 0)) := fun _ => hR _ _ _ _ _ h.thr (up_same _ _ _ _) (fun _ => ⟨fun _ => upJ_s _ _ _ _, fun z => absurd rfl z⟩)
    have one : R 0 1 (S p (up I (20, 0, 0) 0 0) (upJ J (22, 0, 0) 0 1)) := hR _ _ _ _ _ h.thr (up_same _ _ _ _) (fun _ => ⟨fun z => absurd z (by decide), fun _ => upJ_s _ _ _ _⟩)
    by_cases g : k < gS p
    · refine ⟨fun e => (by rw [rq20 g] at e; cases e), fun m2 e => ?_⟩
      rw [rq20 g] at e; cases e
      refine ⟨kq6 g, fun z => ⟨fun _ => ⟨rfl, v22, ?_⟩, fun w => absurd rfl w⟩, fun z => ⟨fun w => absurd w (by decide), fun _ => ⟨rfl, v22, ?_⟩⟩⟩
      · rw [forall_eq, sJ_S]
        refine ⟨rfl, mo _ k k2 (fun ⟨s, hs, e, l⟩ => ?_) zero⟩
        have : k = s := (nI_eq (by omega) (by omega)).mp e
        subst this; exact absurd z l
      · rw [forall_eq, sJ_S]
        exact ⟨rfl, mo _ k k2 (fun _ => one) (fun hn => absurd (hn k g rfl) z)⟩
    · refine ⟨fun _ => ⟨fun _ => ⟨rfl, v22, ?_⟩, fun w => absurd rfl w⟩, fun m2 e => (by rw [rq20n g] at e; cases e)⟩
      rw [forall_eq, sJ_S]
      refine ⟨rfl, mo _ k k2 (fun ⟨s, hs, e, l⟩ => ?_) zero⟩
      have : k = s := (nI_eq (by omega) (by omega)).mp e
      omega
  · unfold w7_isOpen
    refine m_rng (lo := 0) (hi := 3) (by decide) (by decide) (fun k k1 k2 e => absurd e (hn k k1 k2)) (fun _ => ⟨fun _ => ⟨rfl, ?_⟩, fun z => absurd rfl z⟩)
    rw [forall_eq, sI_S, hI_S, up_same]
    exact ⟨fun _ => hR _ _ _ _ _ h.thr (up_same _ _ _ _) (fun z => absurd z (by decide)), fun z => absurd z (by decide)⟩
theorem IV.itm {p : PP} {a a' b b' : IF} {i t : Nat} (h : IV p a b t) (hi : i < gT p) (hW : WF p a') (ha : ∀ n j, ¬ (n = (14, i, 0) ∧ (j = 6 ∨ j = 7)) → n.1 < 20 → a' n j = a n j) (hM : MX p a' b') (h5 : ∀ s, b' (21, 5, 0) s = b (21, 5, 0) s) : IV p a' b' t := by
  have al : ∀ r k z j, r ≠ 14 → r < 20 → a' (r, k, z) j = a (r, k, z) j := fun r k z j g g2 => ha _ j (fun q => by have := q.1; simp only [Prod.mk.injEq] at this; exact g this.1) g2
  have a14 : ∀ k j, j ≠ 6 → j ≠ 7 → a' (14, k, 0) j = a (14, k, 0) j := fun k j g g2 => ha _ j (fun q => by omega) (show 14 < 20 by decide)
  obtain ⟨-, -, h3, h4, h6, h7, h8, h9⟩ := h
  refine ⟨hW, hM, fun i hi => ?_, fun s hs => ?_, fun s hs => ?_, ?_, ?_, h9⟩
  · have := h3 i hi
    unfold TI at *
    rw [al 6 _ _ _ (by decide) (by decide), al 15 _ _ _ (by decide) (by decide), al 15 _ _ _ (by decide) (by decide), a14 _ 10 (by decide) (by decide), a14 _ 8 (by decide) (by decide)]; exact this
  · exact SN.cg rfl (al 6 _ _ _ (by decide) (by decide)) (al 6 _ _ _ (by decide) (by decide)) (fun o => al 10 _ _ _ (by decide) (by decide)) (h4 s hs)
  · have := h6 s hs
    unfold TS at *
    rw [al 6 _ _ _ (by decide) (by decide), al 7 _ _ _ (by decide) (by decide), al 7 _ _ _ (by decide) (by decide), h5]; exact this
  · rw [al 0 _ _ _ (by decide) (by decide)]; exact h7
  · unfold OQ pr at *
    simp only [al 6 _ _ _ (show 6 ≠ 14 by decide) (show 6 < 20 by decide)]; exact h8
theorem HI.itm {p : PP} {a a' : IF} {i k t : Nat} (ha : ∀ n j, ¬ (n = (14, i, 0) ∧ (j = 6 ∨ j = 7)) → n.1 < 20 → a' n j = a n j) (h : HI p a k t) : HI p a' k t := by
  have al : ∀ r k z j, r ≠ 14 → r < 20 → a' (r, k, z) j = a (r, k, z) j := fun r k z j g g2 => ha _ j (fun q => by have := q.1; simp only [Prod.mk.injEq] at this; exact g this.1) g2
  have a14 : ∀ k j, j ≠ 6 → j ≠ 7 → a' (14, k, 0) j = a (14, k, 0) j := fun k j g g2 => ha _ j (fun q => by omega) (show 14 < 20 by decide)
  unfold HI hR_ hC hTk hNd hVl at *
  simp only [al 6 _ _ _ (show 6 ≠ 14 by decide) (show 6 < 20 by decide), al 4 _ _ _ (show 4 ≠ 14 by decide) (show 4 < 20 by decide), al 5 _ _ _ (show 5 ≠ 14 by decide) (show 5 < 20 by decide), al 15 _ _ _ (show 15 ≠ 14 by decide) (show 15 < 20 by decide), a14 _ 11 (by decide) (by decide), a14 _ 10 (by decide) (by decide), a14 _ 8 (by decide) (by decide), a14 _ 9 (by decide) (by decide), a14 _ 2 (by decide) (by decide), a14 _ 3 (by decide) (by decide)]
  exact h
end
