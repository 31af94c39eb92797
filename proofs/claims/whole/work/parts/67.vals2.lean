/-! valueAt, itemAt, isMarked: the calls. -/
section
variable {N : Nat} {p : PP} {I : IF} {J : JF} {R : Int32 → Int32 → PH → Prop}
theorem mp_yes {x y z : Int32} (h : LI N p I) {s q n : Nat} (hs : s < gS p) (e : x = nI s) (l : I (6, s, 0) 7 ≠ 0) (hq : q < tn (I (6, s, 0) 9)) (ho : gP p s q < gM p s) (ey : I (10, s, gP p s q) 3 = y) (ez : z = nI n) (hn : n < tn (I (10, s, gP p s q) 4)) (h10 : n < 10) {Q : Int32 → PH → Prop} (g : ∀ k, k < 5 → (I (21, 32, 0) (10 * (5 * s + k) + n) = I (11, s, gP p s q) n ∧ I (21, 33, 0) (10 * (5 * s + k) + n) = I (12, s, gP p s q) n ∧ I (21, 34, 0) (10 * (5 * s + k) + n) = I (13, s, gP p s q) n) → Q (nI (10 * (5 * s + k) + n)) (S p (up I (20, 0, 0) 0 0) J)) : w7_placeOf (20, 0, 0) x y z (S p I J) Q := by
  obtain ⟨t, ⟨hW, hM, hTI, hSN, hTS, hnow, hOQ, h5⟩, -⟩ := h
  have h4 := hW.1.2.1
  have hMM := (hM.2.1 s hs).2
  obtain ⟨s1, k, k1, k2, k3, k4, k5⟩ := slot_of (by omega) hMM (hSN s hs) hq ey
  refine m_placeOf hW hM hs e l (fun k' n' hk' e1 _ ez' hn' hn10 => ?_) (fun k' hk' e1 _ => ?_) (fun hno => ?_) (fun k' l' hk' hl' e1 e2 _ => by rw [k5 k' hk' e1, k5 l' hl' e2])
  · have : k' = k := k5 k' hk' e1
    subst this
    rw [ez] at ez'
    have : n = n' := (nI_eq (by omega) (by omega)).mp ez'
    subst this
    exact g k' k1 (k4 n hn)
  · have : k' = k := k5 k' hk' e1
    subst this
    rw [k3]; exact (hW.2.2 s hs).2.2.2.2.2.2.2.2.1 _ ho
  · exact absurd ez (hno k n k1 k2 s1 (by rw [k3]; exact hn))
theorem mp_no {x y z : Int32} (h : LI N p I) {s : Nat} (hs : s < gS p) (e : x = nI s) (l : I (6, s, 0) 7 ≠ 0) (hno : ∀ q, q < tn (I (6, s, 0) 9) → I (10, s, gP p s q) 3 = y → ∀ n, n < tn (I (10, s, gP p s q) 4) → z ≠ nI n) {Q : Int32 → PH → Prop} (g : Q (-1) (S p (up I (20, 0, 0) 0 2) J)) : w7_placeOf (20, 0, 0) x y z (S p I J) Q := by
  obtain ⟨t, ⟨hW, hM, hTI, hSN, hTS, hnow, hOQ, h5⟩, -⟩ := h
  have h4 := hW.1.2.1
  have hMM := (hM.2.1 s hs).2
  have key : ∀ k, k < 5 → I (21, 30, 0) (5 * s + k) = y → ¬ y ≤ 0 → ∃ q, q < tn (I (6, s, 0) 9) ∧ I (10, s, gP p s q) 3 = y ∧ I (21, 31, 0) (5 * s + k) = I (10, s, gP p s q) 4 := by
    intro k hk e1 g1
    rcases hMM.2.1 k hk with w | ⟨q, w1, w2⟩
    · rw [w] at e1; subst e1; exact absurd (by decide) g1
    · have ey : I (10, s, gP p s q) 3 = y := by rw [← w2]; exact e1
      obtain ⟨s1, k', k1, k2, k3, k4, k5⟩ := slot_of (by omega) hMM (hSN s hs) w1 ey
      have : k = k' := k5 k hk e1
      subst this
      exact ⟨q, w1, ey, k3⟩
  refine m_placeOf hW hM hs e l (fun k n hk e1 g1 ez hn _ => ?_) (fun k hk e1 g1 => ?_) (fun _ => g) (fun k l' hk hl e1 e2 g1 => hMM.2.2 k l' hk hl ?_ (by rw [e1, e2]))
  · obtain ⟨q, w1, w2, w3⟩ := key k hk e1 g1
    rw [w3] at hn
    exact absurd ez (hno q w1 w2 n hn)
  · obtain ⟨q, w1, w2, w3⟩ := key k hk e1 g1
    rw [w3]
    obtain ⟨-, -, hkm⟩ := bn_tn (hW.2.2 s hs).2.2.2.2.2.1 (by have := (hW.2.2 s hs).2.2.2.2.2.2.1; omega)
    exact (hW.2.2 s hs).2.2.2.2.2.2.2.2.1 _ ((hW.2.2 s hs).2.2.2.2.2.2.2.1 q (by omega))
  · rw [e1]; intro e0; subst e0; exact absurd (by decide) g1
theorem nNI : ¬ xNE = xIO := by decide
theorem nIN : ¬ xIO = xNE := by decide
theorem L_valueAt {x y z : Int32} (h : LI N p I) (hR : ∀ r1 r2 p' I' J', LI N p' I' → I' (20, 0, 0) 0 = r1 → (r1 = 0 → J' (22, 0, 0) 0 = r2.toInt64) → R r1 r2 (S p' I' J')) : wL_valueAt (0, 0, 0) x y z (22, 0, 0) (S p I J) (fun r1 σ => hK σ (20, 0, 0) = 8 ∧ w7_valueAt (20, 0, 0) x y z σ (fun r2 σ' => R r1 r2 σ')) := by
  have h' := h
  obtain ⟨t, ⟨hW, hM, hTI, hSN, hTS, hnow, hOQ, h5⟩, -⟩ := h'
  have h4 := hW.1.2.1
  unfold wL_valueAt w6_valueAt
  refine ⟨rfl, rfl, c_msg hW (fun s q r hs hq hr e => uq_of (by omega) (hSN s hs) hq hr e) (fun s q n hs e l hq ho ey ez hn h10 => ⟨_, rfl, kq10 hs ho, _, rq100 hs ho, kq11 hs ho, by rw [ez]; exact vinL 10 (lq11 hs ho) h10 (by decide), rfl, v22, ?_⟩) (fun hn => ⟨fun _ => ⟨rfl, ?_⟩, fun w => absurd w nIN, Or.inl rfl⟩) (fun s hs e l hno => ⟨fun w => absurd w nNI, fun _ => ⟨rfl, ?_⟩, Or.inr rfl⟩)⟩
  · rw [forall_eq, sJ_S]
    refine ⟨rfl, ?_⟩
    unfold w7_valueAt
    refine ⟨rfl, mp_yes h hs e l hq ho ey ez hn h10 (fun k hk c => ⟨fun _ => ⟨_, rfl, rfl, vinL 200 rfl (by omega) (by decide), ?_⟩, fun w => absurd w (nI_m1 (by omega))⟩)⟩
    refine hR _ _ _ _ _ h.thr (up_same _ _ _ _) (fun _ => ?_)
    rw [show Int32.toNatClampNeg 0 = 0 from rfl, upJ_s, hI_S, hI_S, nI_clamp (by omega), up_ne (by simp), c.1, ez, nI_clamp (by omega)]
  · unfold w7_valueAt
    refine ⟨rfl, m_place_no hW hM hn ⟨fun w => absurd rfl w, fun _ => ?_⟩⟩
    exact hR _ _ _ _ _ h.thr (up_same _ _ _ _) (fun w => absurd w (by decide))
  · unfold w7_valueAt
    refine ⟨rfl, mp_no h hs e l hno ⟨fun w => absurd rfl w, fun _ => ?_⟩⟩
    exact hR _ _ _ _ _ h.thr (up_same _ _ _ _) (fun w => absurd w (by decide))
theorem L_itemAt {x y z : Int32} (h : LI N p I) (hR : ∀ r1 r2 p' I' J', LI N p' I' → I' (20, 0, 0) 0 = r1 → (r1 = 0 → J' (22, 0, 0) 0 = r2.toInt64) → R r1 r2 (S p' I' J')) : wL_itemAt (0, 0, 0) x y z (22, 0, 0) (S p I J) (fun r1 σ => hK σ (20, 0, 0) = 8 ∧ w7_itemAt (20, 0, 0) x y z σ (fun r2 σ' => R r1 r2 σ')) := by
  have h' := h
  obtain ⟨t, ⟨hW, hM, hTI, hSN, hTS, hnow, hOQ, h5⟩, -⟩ := h'
  have h4 := hW.1.2.1
  unfold wL_itemAt w6_itemAt
  refine ⟨rfl, rfl, c_msg hW (fun s q r hs hq hr e => uq_of (by omega) (hSN s hs) hq hr e) (fun s q n hs e l hq ho ey ez hn h10 => ⟨_, rfl, kq10 hs ho, _, rq101 hs ho, kq12 hs ho, by rw [ez]; exact vinL 10 (lq12 hs ho) h10 (by decide), rfl, v22, ?_⟩) (fun hn => ⟨fun _ => ⟨rfl, ?_⟩, fun w => absurd w nIN, Or.inl rfl⟩) (fun s hs e l hno => ⟨fun w => absurd w nNI, fun _ => ⟨rfl, ?_⟩, Or.inr rfl⟩)⟩
  · rw [forall_eq, sJ_S]
    refine ⟨rfl, ?_⟩
    unfold w7_itemAt
    refine ⟨rfl, mp_yes h hs e l hq ho ey ez hn h10 (fun k hk c => ⟨fun _ => ⟨_, rfl, rfl, vinL 200 rfl (by omega) (by decide), ?_⟩, fun w => absurd w (nI_m1 (by omega))⟩)⟩
    refine hR _ _ _ _ _ h.thr (up_same _ _ _ _) (fun _ => ?_)
    rw [show Int32.toNatClampNeg 0 = 0 from rfl, upJ_s, hI_S, hI_S, nI_clamp (by omega), up_ne (by simp), c.2.1, ez, nI_clamp (by omega)]
  · unfold w7_itemAt
    refine ⟨rfl, m_place_no hW hM hn ⟨fun w => absurd rfl w, fun _ => ?_⟩⟩
    exact hR _ _ _ _ _ h.thr (up_same _ _ _ _) (fun w => absurd w (by decide))
  · unfold w7_itemAt
    refine ⟨rfl, mp_no h hs e l hno ⟨fun w => absurd rfl w, fun _ => ?_⟩⟩
    exact hR _ _ _ _ _ h.thr (up_same _ _ _ _) (fun w => absurd w (by decide))
theorem L_isMarked {x y z : Int32} (h : LI N p I) (hR : ∀ r1 r2 p' I' J', LI N p' I' → I' (20, 0, 0) 0 = r1 → (r1 = 0 → (r2 = 0 → J' (22, 0, 0) 0 = 0) ∧ (r2 ≠ 0 → J' (22, 0, 0) 0 = 1)) → R r1 r2 (S p' I' J')) : wL_isMarked (0, 0, 0) x y z (22, 0, 0) (S p I J) (fun r1 σ => hK σ (20, 0, 0) = 8 ∧ w7_isMarked (20, 0, 0) x y z σ (fun r2 σ' => R r1 r2 σ')) := by
  have h' := h
  obtain ⟨t, ⟨hW, hM, hTI, hSN, hTS, hnow, hOQ, h5⟩, -⟩ := h'
  have h4 := hW.1.2.1
  unfold wL_isMarked w6_isMarked
  refine ⟨rfl, rfl, c_msg hW (fun s q r hs hq hr e => uq_of (by omega) (hSN s hs) hq hr e) (fun s q n hs e l hq ho ey ez hn h10 => ⟨_, rfl, kq10 hs ho, _, rq102 hs ho, kq13 hs ho, by rw [ez]; exact vinL 10 (lq13 hs ho) h10 (by decide), (hW.2.2 s hs).2.2.2.2.2.2.2.2.2.2 _ ho _, fun w0 => ⟨rfl, v22, ?_⟩, fun w0 => ⟨rfl, v22, ?_⟩⟩) (fun hn => ⟨fun _ => ⟨rfl, ?_⟩, fun w => absurd w nIN, Or.inl rfl⟩) (fun s hs e l hno => ⟨fun w => absurd w nNI, fun _ => ⟨rfl, ?_⟩, Or.inr rfl⟩)⟩
  · rw [hI_S, ez, nI_clamp (by omega)] at w0
    rw [forall_eq, sJ_S]
    refine ⟨rfl, ?_⟩
    unfold w7_isMarked
    refine ⟨rfl, mp_yes h hs e l hq ho ey ez hn h10 (fun k hk c => ⟨fun w => absurd w (nI_m1 (by omega)), fun _ => ⟨_, rfl, rfl, vinL 200 rfl (by omega) (by decide), fun _ => ?_, fun w => absurd ?_ w⟩⟩)⟩
    · exact hR _ _ _ _ _ h.thr (up_same _ _ _ _) (fun _ => ⟨fun _ => upJ_s _ _ _ _, fun w => absurd rfl w⟩)
    · rw [hI_S, nI_clamp (by omega), up_ne (by simp), c.2.2, w0]
  · rw [hI_S, ez, nI_clamp (by omega)] at w0
    rw [forall_eq, sJ_S]
    refine ⟨rfl, ?_⟩
    unfold w7_isMarked
    refine ⟨rfl, mp_yes h hs e l hq ho ey ez hn h10 (fun k hk c => ⟨fun w => absurd w (nI_m1 (by omega)), fun _ => ⟨_, rfl, rfl, vinL 200 rfl (by omega) (by decide), fun w => absurd ?_ w0, fun _ => ?_⟩⟩)⟩
    · rw [hI_S, nI_clamp (by omega), up_ne (by simp), c.2.2] at w; exact w
    · exact hR _ _ _ _ _ h.thr (up_same _ _ _ _) (fun _ => ⟨fun w => absurd w (by decide), fun _ => upJ_s _ _ _ _⟩)
  · unfold w7_isMarked
    refine ⟨rfl, m_place_no hW hM hn ⟨fun _ => ?_, fun w => absurd rfl w⟩⟩
    exact hR _ _ _ _ _ h.thr (up_same _ _ _ _) (fun w => absurd w (by decide))
  · unfold w7_isMarked
    refine ⟨rfl, mp_no h hs e l hno ⟨fun _ => ?_, fun w => absurd rfl w⟩⟩
    exact hR _ _ _ _ _ h.thr (up_same _ _ _ _) (fun w => absurd w (by decide))
end
