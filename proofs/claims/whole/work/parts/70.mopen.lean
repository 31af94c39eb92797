/-! open: the model. -/
theorem bn_no {x : Int32} {lo hi : Nat} (h : ∀ k, lo ≤ k → k ≤ hi → x ≠ nI k) : ¬ bn x lo hi := fun ⟨k, a, b, e⟩ => h k a b e
set_option maxHeartbeats 4000000 in
theorem m_open {P : PP} {b : IF} {J : JF} {p1 p2 p3 p4 p5 : Int32} {s : Nat} {Q : Int32 → PH → Prop} (hs : s ≤ 4) (h3 : b (20, 0, 0) 3 = nI s) (ha : ¬ (bn p1 1 20 ∧ bn p2 1 10 ∧ bn p3 1 30 ∧ bn p4 0 9 ∧ bn p5 1 10) → Q 0 (S P (up b (20, 0, 0) 0 1) J)) (hb : (bn p1 1 20 ∧ bn p2 1 10 ∧ bn p3 1 30 ∧ bn p4 0 9 ∧ bn p5 1 10) → s = 4 → Q 0 (S P (up b (20, 0, 0) 0 2) J)) (hc : (bn p1 1 20 ∧ bn p2 1 10 ∧ bn p3 1 30 ∧ bn p4 0 9 ∧ bn p5 1 10) → s < 4 → ∀ b', b' (21, 4, 0) s = 1 → b' (21, 5, 0) s = b (20, 0, 0) 1 → b' (21, 6, 0) s = p1 → b' (21, 7, 0) s = p2 → b' (21, 8, 0) s = p3 → b' (21, 9, 0) s = p4 → b' (21, 10, 0) s = p5 → b' (20, 0, 0) 3 = nI (s + 1) → b' (20, 0, 0) 0 = 0 → (∀ n j, ¬ (n = (20, 0, 0) ∧ (j = 0 ∨ j = 3)) → ¬ (n.1 = 21 ∧ 4 ≤ n.2.1 ∧ n.2.1 ≤ 10 ∧ j = s) → b' n j = b n j) → Q (nI s) (S P b' J)) : w7_open (20, 0, 0) p1 p2 p3 p4 p5 (S P b J) Q := by
  unfold w7_open
  refine m_rng (lo := 1) (hi := 20) (by decide) (by decide) (fun k1 a1 b1 e1 => ⟨fun z => absurd z (by decide), fun _ => m_rng (lo := 1) (hi := 10) (by decide) (by decide) (fun k2 a2 b2 e2 => ⟨fun z => absurd z (by decide), fun _ => m_rng (lo := 1) (hi := 30) (by decide) (by decide) (fun k3 a3 b3 e3 => ⟨fun z => absurd z (by decide), fun _ => m_rng (lo := 0) (hi := 9) (by decide) (by decide) (fun k4 a4 b4 e4 => ⟨fun z => absurd z (by decide), fun _ => m_rng (lo := 1) (hi := 10) (by decide) (by decide) (fun k5 a5 b5 e5 => ⟨fun z => absurd z (by decide), fun _ => ⟨rfl, fun w => ?_, fun w => ?_⟩⟩) (fun hn => ⟨fun _ => ⟨rfl, ?_⟩, fun z => absurd rfl z⟩)⟩) (fun hn => ⟨fun _ => ⟨rfl, ?_⟩, fun z => absurd rfl z⟩)⟩) (fun hn => ⟨fun _ => ⟨rfl, ?_⟩, fun z => absurd rfl z⟩)⟩) (fun hn => ⟨fun _ => ⟨rfl, ?_⟩, fun z => absurd rfl z⟩)⟩) (fun hn => ⟨fun _ => ⟨rfl, ?_⟩, fun z => absurd rfl z⟩)
  · rw [hI_S, h3, show (4 : Int32) = nI 4 from rfl, nI_eq (by omega) (by decide)] at w
    have hs4 : s < 4 := by omega
    have e30 : up b (20, 0, 0) 0 0 (20, 0, 0) 3 = nI s := by rw [up_nj (by decide)]; exact h3
    rw [forall_eq, sI_S]
    simp only [hI_S, e30, nI_clamp (show s < 2 ^ 31 by omega)]
    rw [up_same]
    refine ⟨fun _ => ⟨_, rfl, rfl, vinL 4 rfl hs4 (by decide), ?_⟩, fun z => absurd (by decide) z⟩
    rw [forall_eq, sI_S]
    refine ⟨_, rfl, rfl, vinL 4 rfl hs4 (by decide), ?_⟩
    rw [forall_eq, sI_S]
    refine ⟨_, rfl, rfl, vinL 4 rfl hs4 (by decide), ?_⟩
    rw [forall_eq, sI_S]
    refine ⟨_, rfl, rfl, vinL 4 rfl hs4 (by decide), ?_⟩
    rw [forall_eq, sI_S]
    refine ⟨_, rfl, rfl, vinL 4 rfl hs4 (by decide), ?_⟩
    rw [forall_eq, sI_S]
    refine ⟨_, rfl, rfl, vinL 4 rfl hs4 (by decide), ?_⟩
    rw [forall_eq, sI_S]
    refine ⟨_, rfl, rfl, vinL 4 rfl hs4 (by decide), ?_⟩
    rw [forall_eq, forall_eq, sI_S, sI_S]
    simp only [hI_S]
    refine hc ⟨⟨k1, a1, b1, e1⟩, ⟨k2, a2, b2, e2⟩, ⟨k3, a3, b3, e3⟩, ⟨k4, a4, b4, e4⟩, ⟨k5, a5, b5, e5⟩⟩ hs4 _ ?_ ?_ ?_ ?_ ?_ ?_ ?_ ?_ ?_ ?_
    · simp [up]
    · simp [up]
    · simp [up]
    · simp [up]
    · simp [up]
    · simp [up]
    · simp [up]
    · rw [up_same, up_ne (by simp), up_ne (by simp), up_ne (by simp), up_ne (by simp), up_ne (by simp), up_ne (by simp), up_ne (by simp), up_nj (by decide), h3, nI_1]
    · simp [up]
    · intro n j g1 g2
      have f : ∀ k, 4 ≤ k → k ≤ 10 → ¬ (n = (21, k, 0) ∧ j = s) := fun k k1 k2 q => g2 (by rw [q.1]; exact ⟨rfl, k1, k2, q.2⟩)
      rw [up_ne (fun q => g1 ⟨q.1, Or.inr q.2⟩), up_ne (f 10 (by omega) (by omega)), up_ne (f 9 (by omega) (by omega)), up_ne (f 8 (by omega) (by omega)), up_ne (f 7 (by omega) (by omega)), up_ne (f 6 (by omega) (by omega)), up_ne (f 5 (by omega) (by omega)), up_ne (f 4 (by omega) (by omega)), up_ne (fun q => g1 ⟨q.1, Or.inl q.2⟩)]
  · rw [hI_S, h3, show (4 : Int32) = nI 4 from rfl, nI_eq (by omega) (by decide)] at w
    rw [forall_eq, sI_S]
    simp only [hI_S]
    rw [up_same]
    exact ⟨fun z => absurd z (by decide), fun _ => hb ⟨⟨k1, a1, b1, e1⟩, ⟨k2, a2, b2, e2⟩, ⟨k3, a3, b3, e3⟩, ⟨k4, a4, b4, e4⟩, ⟨k5, a5, b5, e5⟩⟩ w⟩
  · rw [forall_eq, sI_S]
    simp only [hI_S]
    rw [up_same]
    exact ⟨fun z => absurd z (by decide), fun _ => ha (fun g => bn_no hn g.2.2.2.2)⟩
  · rw [forall_eq, sI_S]
    simp only [hI_S]
    rw [up_same]
    exact ⟨fun z => absurd z (by decide), fun _ => ha (fun g => bn_no hn g.2.2.2.1)⟩
  · rw [forall_eq, sI_S]
    simp only [hI_S]
    rw [up_same]
    exact ⟨fun z => absurd z (by decide), fun _ => ha (fun g => bn_no hn g.2.2.1)⟩
  · rw [forall_eq, sI_S]
    simp only [hI_S]
    rw [up_same]
    exact ⟨fun z => absurd z (by decide), fun _ => ha (fun g => bn_no hn g.2.1)⟩
  · rw [forall_eq, sI_S]
    simp only [hI_S]
    rw [up_same]
    exact ⟨fun z => absurd z (by decide), fun _ => ha (fun g => bn_no hn g.1)⟩
