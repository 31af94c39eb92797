/-! add: the model. -/
theorem m_isNode {x : Int32} {σ : PH} {Q : Int32 → PH → Prop} (h1 : bn x 0 9 → Q 1 σ) (h2 : ¬ bn x 0 9 → Q 0 σ) : w7_isNode x σ Q := by
  unfold w7_isNode
  exact m_rng (lo := 0) (hi := 9) (by decide) (by decide) (fun k a b e => ⟨zb1, h1 ⟨k, a, b, e⟩⟩) (fun hn => ⟨zb0, h2 (bn_no hn)⟩)
set_option maxHeartbeats 8000000 in
theorem m_add {p P : PP} {a b : IF} {J : JF} {p1 p2 p3 p4 p5 p6 : Int32} {Q : Int32 → PH → Prop} (hW : WF p a) (hM : MX p a b) (hz : zb p5) (h1 : ¬ ((∃ s, s < gS p ∧ p1 = nI s ∧ a (6, s, 0) 7 ≠ 0) ∧ bn p2 0 9) → Q 0 (S P (up b (20, 0, 0) 0 1) J)) (h2 : ((∃ s, s < gS p ∧ p1 = nI s ∧ a (6, s, 0) 7 ≠ 0) ∧ bn p2 0 9) → ¬ (bn p3 1 20 ∧ bn p4 1 4 ∧ bn p6 0 1000) → Q 0 (S P (up b (20, 0, 0) 0 2) J)) (h3 : ((∃ s, s < gS p ∧ p1 = nI s ∧ a (6, s, 0) 7 ≠ 0) ∧ bn p2 0 9) → (bn p3 1 20 ∧ bn p4 1 4 ∧ bn p6 0 1000) → gT p = 16 → Q 0 (S P (up b (20, 0, 0) 0 3) J)) (h4 : ((∃ s, s < gS p ∧ p1 = nI s ∧ a (6, s, 0) 7 ≠ 0) ∧ bn p2 0 9) → (bn p3 1 20 ∧ bn p4 1 4 ∧ bn p6 0 1000) → gT p < 16 → ∀ b', b' (21, 16, 0) (gT p) = p1 → b' (21, 17, 0) (gT p) = p2 → b' (21, 18, 0) (gT p) = b (20, 0, 0) 1 → b' (21, 19, 0) (gT p) = p3 → b' (21, 20, 0) (gT p) = p4 → b' (21, 21, 0) (gT p) = p5 → b' (21, 22, 0) (gT p) = p6 → b' (21, 23, 0) (gT p) = 1 → b' (20, 0, 0) 15 = nI (gT p + 1) → b' (20, 0, 0) 0 = 0 → (∀ n j, ¬ (n = (20, 0, 0) ∧ (j = 0 ∨ j = 15)) → ¬ (n.1 = 21 ∧ 16 ≤ n.2.1 ∧ n.2.1 ≤ 23 ∧ j = gT p) → b' n j = b n j) → w7_samples (20, 0, 0) (nI (gT p)) (S P b' J) (fun σ => Q (nI (gT p)) σ)) : w7_add (20, 0, 0) p1 p2 p3 p4 p5 p6 (S P b J) Q := by
  have h16 := hW.1.2.2.2.1
  have h15 : b (20, 0, 0) 15 = nI (gT p) := by rw [hM.1.2.2.2.1, hW.1.2.2.1]
  have nl : (∀ s, s < gS p → p1 = nI s → a (6, s, 0) 7 = 0) → ¬ ((∃ s, s < gS p ∧ p1 = nI s ∧ a (6, s, 0) 7 ≠ 0) ∧ bn p2 0 9) := fun hn q => by
    obtain ⟨⟨s, g1, g2, g3⟩, -⟩ := q
    exact g3 (hn s g1 g2)
  unfold w7_add
  refine m_rng (lo := 1) (hi := 20) (by decide) (by decide) (fun k1 a1 b1 e1 => ⟨fun z => absurd z (by decide), fun _ => m_rng (lo := 1) (hi := 4) (by decide) (by decide) (fun k2 a2 b2 e2 => ⟨fun z => absurd z (by decide), fun _ => m_rng (lo := 0) (hi := 1000) (by decide) (by decide) (fun k3 a3 b3 e3 => ⟨fun z => absurd z (by decide), fun _ => ⟨rfl, m_isSub hW hM (fun s hs e l => ⟨fun z => absurd z (by decide), fun _ => m_isNode (fun nd => ⟨fun _ => ⟨fun w => ?_, fun w => ?_⟩, fun z => absurd z (by decide)⟩) (fun nd => ⟨fun z => absurd rfl z, fun _ => ?_⟩)⟩) (fun hn => ⟨fun _ => ?_, fun z => absurd rfl z⟩)⟩⟩) (fun hr => ⟨fun _ => ⟨rfl, m_isSub hW hM (fun s hs e l => ⟨fun z => absurd z (by decide), fun _ => m_isNode (fun nd => ⟨fun _ => ?_, fun z => absurd z (by decide)⟩) (fun nd => ⟨fun z => absurd rfl z, fun _ => ?_⟩)⟩) (fun hn => ⟨fun _ => ?_, fun z => absurd rfl z⟩)⟩, fun z => absurd rfl z⟩)⟩) (fun hr => ⟨fun _ => ⟨rfl, m_isSub hW hM (fun s hs e l => ⟨fun z => absurd z (by decide), fun _ => m_isNode (fun nd => ⟨fun _ => ?_, fun z => absurd z (by decide)⟩) (fun nd => ⟨fun z => absurd rfl z, fun _ => ?_⟩)⟩) (fun hn => ⟨fun _ => ?_, fun z => absurd rfl z⟩)⟩, fun z => absurd rfl z⟩)⟩) (fun hr => ⟨fun _ => ⟨rfl, m_isSub hW hM (fun s hs e l => ⟨fun z => absurd z (by decide), fun _ => m_isNode (fun nd => ⟨fun _ => ?_, fun z => absurd z (by decide)⟩) (fun nd => ⟨fun z => absurd rfl z, fun _ => ?_⟩)⟩) (fun hn => ⟨fun _ => ?_, fun z => absurd rfl z⟩)⟩, fun z => absurd rfl z⟩)
  · rw [hI_S, h15, show (16 : Int32) = nI 16 from rfl, nI_eq (by omega) (by decide)] at w
    have hi : gT p < 16 := by omega
    have e15 : up b (20, 0, 0) 0 0 (20, 0, 0) 15 = nI (gT p) := by rw [up_nj (by decide)]; exact h15
    rw [forall_eq, sI_S]
    simp only [hI_S, e15, nI_clamp (show gT p < 2 ^ 31 by omega)]
    rw [up_same]
    refine ⟨fun _ => ⟨_, rfl, rfl, vinL 16 rfl hi (by decide), ?_⟩, fun z => absurd (by decide) z⟩
    rw [forall_eq, sI_S]
    refine ⟨_, rfl, rfl, vinL 16 rfl hi (by decide), ?_⟩
    rw [forall_eq, sI_S]
    refine ⟨_, rfl, rfl, vinL 16 rfl hi (by decide), ?_⟩
    rw [forall_eq, sI_S]
    refine ⟨_, rfl, rfl, vinL 16 rfl hi (by decide), ?_⟩
    rw [forall_eq, sI_S]
    refine ⟨_, rfl, rfl, vinL 16 rfl hi (by decide), ?_⟩
    rw [forall_eq, sI_S]
    refine ⟨_, rfl, rfl, vinL 16 rfl hi (by decide), hz, ?_⟩
    rw [forall_eq, sI_S]
    refine ⟨_, rfl, rfl, vinL 16 rfl hi (by decide), ?_⟩
    rw [forall_eq, sI_S]
    refine ⟨_, rfl, rfl, vinL 16 rfl hi (by decide), ?_⟩
    rw [forall_eq, forall_eq, sI_S, sI_S]
    simp only [hI_S]
    refine h4 ⟨⟨s, hs, e, l⟩, nd⟩ ⟨⟨k1, a1, b1, e1⟩, ⟨k2, a2, b2, e2⟩, ⟨k3, a3, b3, e3⟩⟩ hi _ ?_ ?_ ?_ ?_ ?_ ?_ ?_ ?_ ?_ ?_ ?_
    · simp [up]
    · simp [up]
    · simp [up]
    · simp [up]
    · simp [up]
    · simp [up]
    · simp [up]
    · simp [up]
    · rw [up_same, up_ne (by simp), up_ne (by simp), up_ne (by simp), up_ne (by simp), up_ne (by simp), up_ne (by simp), up_ne (by simp), up_ne (by simp), up_nj (by decide), h15, nI_1]
    · simp [up]
    · intro n j g1 g2
      have f : ∀ k, 16 ≤ k → k ≤ 23 → ¬ (n = (21, k, 0) ∧ j = gT p) := fun k k1 k2 q => g2 (by rw [q.1]; exact ⟨rfl, k1, k2, q.2⟩)
      rw [up_ne (fun q => g1 ⟨q.1, Or.inr q.2⟩), up_ne (f 23 (by omega) (by omega)), up_ne (f 22 (by omega) (by omega)), up_ne (f 21 (by omega) (by omega)), up_ne (f 20 (by omega) (by omega)), up_ne (f 19 (by omega) (by omega)), up_ne (f 18 (by omega) (by omega)), up_ne (f 17 (by omega) (by omega)), up_ne (f 16 (by omega) (by omega)), up_ne (fun q => g1 ⟨q.1, Or.inl q.2⟩)]
  · rw [hI_S, h15, show (16 : Int32) = nI 16 from rfl, nI_eq (by omega) (by decide)] at w
    rw [forall_eq, sI_S]
    simp only [hI_S]
    rw [up_same]
    exact ⟨fun z => absurd z (by decide), fun _ => h3 ⟨⟨s, hs, e, l⟩, nd⟩ ⟨⟨k1, a1, b1, e1⟩, ⟨k2, a2, b2, e2⟩, ⟨k3, a3, b3, e3⟩⟩ w⟩
  · rw [forall_eq, sI_S]
    simp only [hI_S]
    rw [up_same]
    exact ⟨fun z => absurd z (by decide), fun _ => h1 (fun q => nd q.2)⟩
  · rw [forall_eq, sI_S]
    simp only [hI_S]
    rw [up_same]
    exact ⟨fun z => absurd z (by decide), fun _ => h1 (nl hn)⟩
  · rw [forall_eq, sI_S]
    simp only [hI_S]
    rw [up_same]
    exact ⟨fun z => absurd z (by decide), fun _ => h2 ⟨⟨s, hs, e, l⟩, nd⟩ (fun g => bn_no hr g.2.2)⟩
  · rw [forall_eq, sI_S]
    simp only [hI_S]
    rw [up_same]
    exact ⟨fun z => absurd z (by decide), fun _ => h1 (fun q => nd q.2)⟩
  · rw [forall_eq, sI_S]
    simp only [hI_S]
    rw [up_same]
    exact ⟨fun z => absurd z (by decide), fun _ => h1 (nl hn)⟩
  · rw [forall_eq, sI_S]
    simp only [hI_S]
    rw [up_same]
    exact ⟨fun z => absurd z (by decide), fun _ => h2 ⟨⟨s, hs, e, l⟩, nd⟩ (fun g => bn_no hr g.2.1)⟩
  · rw [forall_eq, sI_S]
    simp only [hI_S]
    rw [up_same]
    exact ⟨fun z => absurd z (by decide), fun _ => h1 (fun q => nd q.2)⟩
  · rw [forall_eq, sI_S]
    simp only [hI_S]
    rw [up_same]
    exact ⟨fun z => absurd z (by decide), fun _ => h1 (nl hn)⟩
  · rw [forall_eq, sI_S]
    simp only [hI_S]
    rw [up_same]
    exact ⟨fun z => absurd z (by decide), fun _ => h2 ⟨⟨s, hs, e, l⟩, nd⟩ (fun g => bn_no hr g.1)⟩
  · rw [forall_eq, sI_S]
    simp only [hI_S]
    rw [up_same]
    exact ⟨fun z => absurd z (by decide), fun _ => h1 (fun q => nd q.2)⟩
  · rw [forall_eq, sI_S]
    simp only [hI_S]
    rw [up_same]
    exact ⟨fun z => absurd z (by decide), fun _ => h1 (nl hn)⟩
