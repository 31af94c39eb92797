/-! The model's place of a value. -/
theorem m_placeOf {p P : PP} {a b : IF} {J : JF} {s : Nat} {x y z : Int32} (hW : WF p a) (hM : MX p a b) (hs : s < gS p) (hx : x = nI s) (hl : a (6, s, 0) 7 ≠ 0) {Q : Int32 → PH → Prop} (h1 : ∀ k n, k < 5 → b (21, 30, 0) (5 * s + k) = y → ¬ y ≤ 0 → z = nI n → n < tn (b (21, 31, 0) (5 * s + k)) → n < 10 → Q (nI (10 * (5 * s + k) + n)) (S P (up b (20, 0, 0) 0 0) J)) (hc : ∀ k, k < 5 → b (21, 30, 0) (5 * s + k) = y → ¬ y ≤ 0 → bn (b (21, 31, 0) (5 * s + k)) 0 10) (h2 : (∀ k n, k < 5 → b (21, 30, 0) (5 * s + k) = y → ¬ y ≤ 0 → n < tn (b (21, 31, 0) (5 * s + k)) → z ≠ nI n) → Q (-1) (S P (up b (20, 0, 0) 0 2) J)) (hu : ∀ k l, k < 5 → l < 5 → b (21, 30, 0) (5 * s + k) = y → b (21, 30, 0) (5 * s + l) = y → ¬ y ≤ 0 → k = l) : w7_placeOf (20, 0, 0) x y z (S P b J) Q := by
  have h4 := hW.1.2.1
  have sub : ∀ {Q2 : Int32 → PH → Prop}, Q2 1 (S P b J) → w7_isSubscription (20, 0, 0) x (S P b J) Q2 := fun g => m_isSub hW hM (fun _ _ _ _ => g) (fun hn => absurd (hn s hs hx) hl)
  unfold w7_placeOf
  refine ⟨rfl, sub ⟨fun w => absurd w (by decide), fun _ => ?_⟩⟩
  subst hx
  refine m_keptAt (by omega) (fun k hk e g => ⟨fun w => absurd w (nI_m1 (by omega)), fun w => ⟨fun _ => ⟨_, rfl, rfl, vinL 20 rfl (by omega) (by decide), ?_⟩, fun w2 => absurd w2 w⟩⟩) (fun w => ⟨fun _ => sub ⟨fun _ => ?_, fun w2 => absurd w2 (by decide)⟩, fun w2 => absurd rfl w2⟩)
  · obtain ⟨c1, -, c3⟩ := bn_tn (hc k hk e g) (by decide)
    rw [hI_S, nI_clamp (by omega), c1]
    refine m_inN (by omega) (fun n hn en => ⟨fun w2 => absurd w2 (by decide), fun _ => sub ⟨fun _ => ?_, fun w2 => absurd w2 (by decide)⟩⟩) (fun hn => ⟨fun _ => sub ⟨fun _ => ?_, fun w2 => absurd w2 (by decide)⟩, fun w2 => absurd rfl w2⟩)
    · rw [forall_eq, sI_S, en, nIx10, nI_add]
      exact h1 k n hk e g en hn (by omega)
    · rw [forall_eq, sI_S]
      refine h2 (fun l n hl e2 g2 hn2 => ?_)
      have : l = k := hu l k hl hk e2 e g
      subst this
      exact hn n hn2
  · rw [forall_eq, sI_S]
    refine h2 (fun l n hl e2 g2 _ => ?_)
    rcases w with w | w
    · exact absurd w g2
    · exact absurd e2 (w l hl)
