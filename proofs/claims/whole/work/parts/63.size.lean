theorem slot_of {p : PP} {a b : IF} {s B q : Nat} {x : Int32} (hB : B < 2 ^ 31) (hM : MM p a b s) (hN : SN p a s B) (hq : q < tn (a (6, s, 0) 9)) (e : a (10, s, gP p s q) 3 = x) : ¬ x ≤ 0 ∧ ∃ k, k < 5 ∧ b (21, 30, 0) (5 * s + k) = x ∧ b (21, 31, 0) (5 * s + k) = a (10, s, gP p s q) 4 ∧ (∀ n, n < tn (a (10, s, gP p s q) 4) → b (21, 32, 0) (10 * (5 * s + k) + n) = a (11, s, gP p s q) n ∧ b (21, 33, 0) (10 * (5 * s + k) + n) = a (12, s, gP p s q) n ∧ b (21, 34, 0) (10 * (5 * s + k) + n) = a (13, s, gP p s q) n) ∧ ∀ l, l < 5 → b (21, 30, 0) (5 * s + l) = x → l = k := by
  obtain ⟨ln, y, n1, n2, n3, n4⟩ := hN
  obtain ⟨m1, m2, m3⟩ := hM
  obtain ⟨k, k1, k2, k3, k4⟩ := m1 q hq
  have g := n3 q hq
  rw [e] at k2
  have ex : x = nI (y q) := by rw [← e]; exact g.1
  refine ⟨by rw [ex, nI_le0 (by omega)]; omega, k, k1, k2, k3, k4, fun l hl w => ?_⟩
  refine m3 l k hl k1 ?_ (by rw [w, k2])
  rw [w, ex, Ne, nI_e0 (by omega)]; omega
theorem slot_no {p : PP} {a b : IF} {s : Nat} {x : Int32} (hM : MM p a b s) (hn : ∀ q, q < tn (a (6, s, 0) 9) → a (10, s, gP p s q) 3 ≠ x) {k : Nat} (hk : k < 5) (e : b (21, 30, 0) (5 * s + k) = x) (hx : ¬ x ≤ 0) : False := by
  rcases hM.2.1 k hk with w | ⟨q, w1, w2⟩
  · rw [w] at e; subst e; exact hx (by decide)
  · exact hn q w1 (by rw [← w2]; exact e)
section
variable {N : Nat} {p : PP} {I : IF} {J : JF} {R : Int32 → Int32 → PH → Prop}
theorem L_size {x y : Int32} (h : LI N p I) (hR : ∀ r1 r2 p' I' J', LI N p' I' → I' (20, 0, 0) 0 = r1 → (r1 = 0 → J' (22, 0, 0) 0 = r2.toInt64) → R r1 r2 (S p' I' J')) : wL_size (0, 0, 0) x y (22, 0, 0) (S p I J) (fun r1 σ => hK σ (20, 0, 0) = 8 ∧ w7_size (20, 0, 0) x y σ (fun r2 σ' => R r1 r2 σ')) := by
  have h' := h
  obtain ⟨t, ⟨hW, hM, hTI, hSN, hTS, hnow, hOQ, h5⟩, -⟩ := h'
  have h4 := hW.1.2.1
  unfold wL_size w6_size
  refine ⟨rfl, rfl, c_openS hW (fun s hs e l => ⟨_, rfl, kq6 hs, ?_⟩) (fun hn => ⟨fun _ => ⟨rfl, ?_⟩, rfl⟩)⟩
  · subst e
    have hMM := (hM.2.1 s hs).2
    have mo : ∀ (J : JF) (v : Int32), (∀ k, k < 5 → I (21, 30, 0) (5 * s + k) = y → ¬ y ≤ 0 → I (21, 31, 0) (5 * s + k) = v) → ((y ≤ 0 ∨ ∀ k, k < 5 → I (21, 30, 0) (5 * s + k) ≠ y) → v = -1) → R 0 v (S p (up I (20, 0, 0) 0 0) J) → w7_size (20, 0, 0) (nI s) y (S p I J) (fun r2 σ' => R 0 r2 σ') := by
      intro J v v1 v2 g
      unfold w7_size
      refine ⟨rfl, m_asks hW hM (fun u hu e2 _ => ⟨fun _ => ?_, fun z => absurd z (by decide)⟩) (fun hn => absurd (hn s hs rfl) l)⟩
      refine m_keptAt (by omega) (fun k hk w1 w2 => ⟨fun _ => ⟨_, rfl, rfl, vinL 20 rfl (by omega) (by decide), ?_⟩, fun z => absurd z (nI_m1 (by omega))⟩) (fun w => ⟨fun z => absurd rfl z, fun _ => ?_⟩)
      · rw [up_ne (by simp)] at w1
        rw [nI_clamp (by omega), hI_S, up_ne (by simp), v1 k hk w1 w2]; exact g
      · have := v2 (by rcases w with w | w; exact Or.inl w; exact Or.inr (fun k hk z => w k hk (by rw [up_ne (by simp)]; exact z)))
        rw [this] at g; exact g
    refine c_find hW hs (fun q hq e => ⟨fun z => (by cases z), fun m2 z => ?_⟩) (fun hn => ⟨fun _ => ⟨rfl, v22, ?_⟩, fun m2 z => (by cases z)⟩)
    · cases z
      obtain ⟨s1, k, k1, k2, k3, k4, k5⟩ := slot_of (by omega) hMM (hSN s hs) hq e
      refine ⟨kq10 hs ((hW.2.2 s hs).2.2.2.2.2.2.2.1 q (by
        obtain ⟨-, -, w⟩ := bn_tn (hW.2.2 s hs).2.2.2.2.2.1 (by have := (hW.2.2 s hs).2.2.2.2.2.2.1; omega)
        omega)), rfl, v22, ?_⟩
      rw [forall_eq, sJ_S]
      refine ⟨rfl, mo _ (I (10, s, gP p s q) 4) (fun l hl w1 w2 => ?_) (fun w => ?_) ?_⟩
      · rw [k5 l hl w1]; exact k3
      · rcases w with w | w
        · exact absurd w s1
        · exact absurd k2 (w k k1)
      · exact hR _ _ _ _ _ h.thr (up_same _ _ _ _) (fun _ => upJ_s _ _ _ _)
    · rw [forall_eq, sJ_S]
      refine ⟨rfl, mo _ (-1) (fun l hl w1 w2 => (slot_no hMM hn hl w1 w2).elim) (fun _ => rfl) ?_⟩
      exact hR _ _ _ _ _ h.thr (up_same _ _ _ _) (fun _ => upJ_s _ _ _ _)
  · unfold w7_size
    refine ⟨rfl, m_asks hW hM (fun u hu e2 l => absurd (hn u hu e2) l) (fun _ => ⟨fun z => absurd rfl z, fun _ => ?_⟩)⟩
    exact hR _ _ _ _ _ h.thr (up_same _ _ _ _) (fun z => absurd z (by decide))
end
