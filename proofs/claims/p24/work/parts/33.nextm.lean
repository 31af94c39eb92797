/-- what the class's next message is: the p and ints then, the object, the place that it is kept in -/
def NX (p : PP) (a : IF) (s : Nat) (p' : PP) (a' : IF) (o K : Nat) : Prop :=
  (∃ m π, p' = setM p s m π) ∧ gM p s ≤ gM p' s ∧ o < gM p' s ∧ WF p' a' ∧ gP p' s K = o ∧ K < 5 ∧ (tn (a (6, s, 0) 9) = K ∨ (tn (a (6, s, 0) 9) = 5 ∧ K = 4)) ∧ (∀ q, q < K → gP p' s q = gP p s (q + (tn (a (6, s, 0) 9) - K)) ∧ gP p' s q ≠ o) ∧
  a' (6, s, 0) 9 = nI (K + 1) ∧ a' (6, s, 0) 10 = a (6, s, 0) 10 + 1 ∧ a' (10, s, o) 3 = a (6, s, 0) 10 + 1 ∧ a' (10, s, o) 4 = nI 0 ∧ ∀ n j, ¬ (n = (6, s, 0) ∧ (j = 9 ∨ j = 10)) → ¬ ((n.1 = 10 ∨ n.1 = 11 ∨ n.1 = 12 ∨ n.1 = 13) ∧ n.2 = (s, o)) → a' n j = a n j
def begA (a : IF) (s o K : Nat) (L : Int32) : IF := up (up (up (up a (6, s, 0) 9 (nI (K + 1))) (6, s, 0) 10 (L + 1)) (10, s, o) 3 (L + 1)) (10, s, o) 4 0
theorem NX_mk {p : PP} {a a1 : IF} {s m o K : Nat} {π : Nat → Nat} (hW : WF p a) (hs : s < gS p) (hm5 : m ≤ 5) (hm : gM p s ≤ m) (hr : ∀ q, q < m → π q < m) (hi : ∀ q r, q < m → r < m → π q = π r → q = r) (hKm : K < m) (ho : π K = o) (hK : tn (a (6, s, 0) 9) = K ∨ (tn (a (6, s, 0) 9) = 5 ∧ K = 4)) (hq : ∀ q, q < K → π q = gP p s (q + (tn (a (6, s, 0) 9) - K))) (hold : ∀ z, z < m → z ≠ o → z < gM p s) (hz : ∀ k, zb (a1 (13, s, o) k))
    (hf : ∀ n j, ¬ (n = (6, s, 0) ∧ j = 9) → ¬ ((n.1 = 10 ∨ n.1 = 11 ∨ n.1 = 12 ∨ n.1 = 13) ∧ n.2 = (s, o)) → a1 n j = a n j) : NX p a s (setM p s m π) (begA a1 s o K (a (6, s, 0) 10)) o K := by
  have hom : o < m := by rw [← ho]; exact hr K hKm
  have fr : ∀ n j, ¬ (n = (6, s, 0) ∧ (j = 9 ∨ j = 10)) → ¬ ((n.1 = 10 ∨ n.1 = 11 ∨ n.1 = 12 ∨ n.1 = 13) ∧ n.2 = (s, o)) → begA a1 s o K (a (6, s, 0) 10) n j = a n j := by
    intro n j h1 h2
    have n10 : ¬ n = (10, s, o) := fun e => h2 (by rw [e]; exact ⟨Or.inl rfl, rfl⟩)
    rw [begA, up_ne (fun q => n10 q.1), up_ne (fun q => n10 q.1), up_ne (fun q => h1 ⟨q.1, Or.inr q.2⟩), up_ne (fun q => h1 ⟨q.1, Or.inl q.2⟩)]
    exact hf n j (fun q => h1 ⟨q.1, Or.inl q.2⟩) h2
  have fl : ∀ r k z j, r < 6 ∨ r = 7 ∨ 13 < r → begA a1 s o K (a (6, s, 0) 10) (r, k, z) j = a (r, k, z) j := fun r k z j g => fr _ j (fun q => by have := q.1; simp only [Prod.mk.injEq] at this; omega) (fun q => by simp only at q; omega)
  have f6 : ∀ k j, (k ≠ s ∨ (j ≠ 9 ∧ j ≠ 10)) → begA a1 s o K (a (6, s, 0) 10) (6, k, 0) j = a (6, k, 0) j := fun k j g => fr _ j (fun q => by have := q.1; simp only [Prod.mk.injEq] at this; omega) (fun q => by simp only at q; omega)
  have b9 : begA a1 s o K (a (6, s, 0) 10) (6, s, 0) 9 = nI (K + 1) := by rw [begA, up_ne (by simp), up_ne (by simp), up_nj (by decide), up_same]
  have b10 : begA a1 s o K (a (6, s, 0) 10) (6, s, 0) 10 = a (6, s, 0) 10 + 1 := by rw [begA, up_ne (by simp), up_ne (by simp), up_same]
  have b3 : begA a1 s o K (a (6, s, 0) 10) (10, s, o) 3 = a (6, s, 0) 10 + 1 := by rw [begA, up_nj (by decide), up_same]
  have b4 : begA a1 s o K (a (6, s, 0) 10) (10, s, o) 4 = nI 0 := by rw [begA, up_same]; rfl
  obtain ⟨w1, w2, w3⟩ := hW
  refine ⟨⟨m, π, rfl⟩, by rw [gM_s]; exact hm, by rw [gM_s]; exact hom, ⟨?_, fun i hi => ?_, fun u hu => ?_⟩, by rw [gP_s]; exact ho, by omega, hK, fun q hqK => ⟨by rw [gP_s]; exact hq q hqK, ?_⟩, b9, b10, b3, b4, fr⟩
  · unfold W1 at *
    simp only [fl 0 _ _ _ (Or.inl (by omega)), fl 1 _ _ _ (Or.inl (by omega)), fl 4 _ _ _ (Or.inl (by omega))]
    exact w1
  · have g := w2 i hi
    unfold IS at *
    simp only [fl 14 _ _ _ (Or.inr (Or.inr (by omega))), fl 15 _ _ _ (Or.inr (Or.inr (by omega))), fl 16 _ _ _ (Or.inr (Or.inr (by omega))), fl 18 _ _ _ (Or.inr (Or.inr (by omega)))]
    exact g
  · by_cases e : u = s
    · subst e
      obtain ⟨g1, g2, g3, g4, g5, g6, g7, g8, g9, g10, g11⟩ := w3 u hu
      refine ⟨by rw [f6 _ _ (Or.inr (by decide))]; exact g1, by rw [fl 7 _ _ _ (Or.inr (Or.inl rfl))]; exact g2, by rw [f6 _ _ (Or.inr (by decide))]; exact g3, by rw [f6 _ _ (Or.inr (by decide))]; exact g4, by rw [f6 _ _ (Or.inr (by decide))]; exact g5, ?_, by rw [gM_s]; exact hm5, ?_, ?_, ?_, ?_⟩
      · rw [b9, gM_s]; exact bn_nI (by omega) (by omega)
      · rw [gM_s]; intro q hq; rw [gP_s]; exact hr q hq
      · rw [gM_s]; intro z hz
        by_cases q : z = o
        · subst q; rw [b4]; exact bn_nI (by omega) (by omega)
        · rw [fr _ _ (fun y => by have := y.1; simp at this) (fun y => by have := y.2; simp only [Prod.mk.injEq] at this; exact q this.2)]; exact g9 z (hold z hz q)
      · rw [gM_s]; intro q r h1 h2; rw [gP_s, gP_s]; exact hi q r h1 h2
      · rw [gM_s]; intro z hz2 k
        by_cases q : z = o
        · subst q
          rw [begA, up_ne (by simp), up_ne (by simp), up_ne (by simp), up_ne (by simp)]; exact hz k
        · rw [fr _ _ (fun y => by have := y.1; simp at this) (fun y => by have := y.2; simp only [Prod.mk.injEq] at this; exact q this.2)]; exact g11 z (hold z hz2 q) k
    · have g := w3 u hu
      have f10 : ∀ r z j, 10 ≤ r → begA a1 s o K (a (6, s, 0) 10) (r, u, z) j = a (r, u, z) j := fun r z j g => fr _ j (fun y => by have := y.1; simp only [Prod.mk.injEq] at this; omega) (fun y => by have := y.2; simp only [Prod.mk.injEq] at this; exact e this.1)
      unfold SS at *
      rw [gM_n e, gP_n e]
      simp only [f6 u _ (Or.inl e), fl 7 _ _ _ (Or.inr (Or.inl rfl)), f10 10 _ _ (by omega), f10 13 _ _ (by omega)]
      exact g
  · rw [gP_s, ← ho]
    intro e
    have := hi q K (by omega) hKm e
    omega
theorem c_begin {p : PP} {a : IF} {J : JF} {s m o K : Nat} {π : Nat → Nat} (hs : s < gS p) (ho : o < m) {L : Int32} (hL : a (6, s, 0) 10 = L) {Q : PH → Prop} (h : Q (S (setM p s m π) (begA a s o K L) J)) : ∀ σ4 : PH, σ4 = sI (S (setM p s m π) a J) (6, s, 0) 9 (nI K + 1) → ∀ σ5 : PH, σ5 = sI σ4 (6, s, 0) 10 ((hI σ4 (6, s, 0) 10) + 1) → hK σ5 (10, s, o) = 3 ∧ w2_begin (10, s, o) (hI σ5 (6, s, 0) 10) σ5 Q := by
  rw [forall_eq, forall_eq, nI_1, sI_S, hI_S, up_nj (by decide), hL, sI_S]
  refine ⟨kq10' hs ho, ?_⟩
  unfold w2_begin
  refine ⟨kq10' hs ho, ?_⟩
  rw [forall_eq, forall_eq, sI_S, sI_S, hI_S, up_same]
  exact h
theorem fg_lt {π : Nat → Nat} {K m q : Nat} (h : ∀ q, q < m → π q < m) (hK : K ≤ m) (h0 : 0 < K) (hq : q < m) : fgP π 0 K q < m := by
  unfold fgP; split
  · exact h 0 (by omega)
  · exact shP_lt h hK hq
theorem fg_inj {π : Nat → Nat} {K m : Nat} (h : ∀ q r, q < m → r < m → π q = π r → q = r) (hK : K ≤ m) {pl : Nat} (hpl : pl < K) : ∀ q r, q < m → r < m → fgP π pl K q = fgP π pl K r → q = r := by
  intro q r hq hr e
  have f : ∀ x, x < m → ∃ y, y < m ∧ fgP π pl K x = π y ∧ (y = pl ↔ x = K - 1) ∧ (x ≠ K - 1 → (pl ≤ x ∧ x + 1 < K → y = x + 1) ∧ (¬ (pl ≤ x ∧ x + 1 < K) → y = x)) := by
    intro x hx
    unfold fgP shP
    by_cases g : x = K - 1
    · exact ⟨pl, by omega, by rw [if_pos g], ⟨fun _ => g, fun _ => rfl⟩, fun w => absurd g w⟩
    · rw [if_neg g]
      by_cases w : pl ≤ x ∧ x + 1 < K
      · exact ⟨x + 1, by omega, by rw [if_pos w], ⟨fun y => by omega, fun y => absurd y g⟩, fun _ => ⟨fun _ => rfl, fun y => absurd w y⟩⟩
      · exact ⟨x, hx, by rw [if_neg w], ⟨fun y => by omega, fun y => absurd y g⟩, fun _ => ⟨fun y => absurd y w, fun _ => rfl⟩⟩
  obtain ⟨y, y1, y2, y3, y4⟩ := f q hq
  obtain ⟨z, z1, z2, z3, z4⟩ := f r hr
  have hyz : y = z := h y z y1 z1 (by rw [← y2, ← z2]; exact e)
  by_cases a : q = K - 1
  · have := y3.mpr a
    have := z3.mp (by omega)
    omega
  · by_cases b : r = K - 1
    · have := z3.mpr b
      have := y3.mp (by omega)
      omega
    · have y5 := y4 a
      have z5 := z4 b
      by_cases c : pl ≤ q ∧ q + 1 < K
      · by_cases d : pl ≤ r ∧ r + 1 < K
        · have := y5.1 c; have := z5.1 d; omega
        · have := y5.1 c; have := z5.2 d; omega
      · by_cases d : pl ≤ r ∧ r + 1 < K
        · have := y5.2 c; have := z5.1 d; omega
        · have := y5.2 c; have := z5.2 d; omega
theorem Kz {p : PP} {s m r : Nat} {π : Nat → Nat} (h : r = 10 ∨ r = 11 ∨ r = 12 ∨ r = 13) : Kf (setM p s m π) (r, s, m) = 0 := by
  have e : ∀ c : Nat, (if s < gS p ∧ m < gM (setM p s m π) s then c else 0) = 0 := by
    intro c; rw [gM_s, if_neg (by omega)]
  rcases h with rfl | rfl | rfl | rfl
  · exact e 3
  · exact e 9
  · exact e 9
  · exact e 10
def mkA (a : IF) (s o : Nat) : IF := up (up (cl (cl (cl (cl a (10, s, o)) (11, s, o)) (12, s, o)) (13, s, o)) (10, s, o) 3 0) (10, s, o) 4 0
theorem S_goal {p : PP} {σ : PH} {Q : PH → Prop} (h1 : hK σ = Kf p) (h2 : hL σ = Lf p) (h3 : hR σ = Rf p) (h : Q (S p (hI σ) (hJ σ))) : Q σ := by
  rw [S_of h1 h2 h3]; exact h
set_option maxHeartbeats 4000000 in
theorem c_make {p : PP} {a : IF} {J : JF} {s m : Nat} {π : Nat → Nat} (hs : s < gS p) (hm : m < 5) (hk9 : a (6, s, 0) 9 = nI m) {Q : PH → Prop} (hQ : ∀ J', Q (S (setM p s (m + 1) (fun q => if q = m then m else π q)) (mkA a s m) J')) : ∀ σ1 : PH, σ1 = sN (S (setM p s m π) a J) (10, s, m) 3 0 → w2_init (10, s, m) σ1 (fun σ2 => ∃ m3 : Nm, hR σ2 (6, s, 0) 6 = some m3 ∧ hK σ2 m3 = 12 ∧ vp_in (hI σ2 (6, s, 0) 9) (hL σ2 m3) ∧ ∀ σ3 : PH, σ3 = sR σ2 m3 (Int32.toNatClampNeg (hI σ2 (6, s, 0) 9)) (some (10, s, m)) → Q σ3) := by
  have z11 : Kf (setM p s m π) (11, s, m) = 0 := Kz (by omega)
  have z12 : Kf (setM p s m π) (12, s, m) = 0 := Kz (by omega)
  have z13 : Kf (setM p s m π) (13, s, m) = 0 := Kz (by omega)
  have k9 : Kf (setM p s m π) (9, s, 0) = 12 := kq9 (p := setM p s m π) hs
  have l9 : Lf (setM p s m π) (9, s, 0) = 5 := lq9 (p := setM p s m π) hs
  have r6 : Rf (setM p s m π) (6, s, 0) 6 = some (9, s, 0) := rq66 (p := setM p s m π) hs
  rw [forall_eq]
  unfold w2_init
  refine ⟨(11, s, m), by simp [hK_sN, hK_S, z11], by simp [hK_sN], ?_⟩
  rw [forall_eq]
  refine ⟨by simp [hK_sN], ?_⟩
  rw [forall_eq]
  refine ⟨(12, s, m), by simp [hK_sN, hK_sR, hK_S, z12], ?_⟩
  rw [forall_eq, forall_eq]
  refine ⟨(13, s, m), by simp [hK_sN, hK_sR, hK_S, z13], ?_⟩
  rw [forall_eq, forall_eq, forall_eq, forall_eq]
  refine ⟨(9, s, 0), by simp [hR_sI, hR_sN, hR_sR, hR_S, r6], by simp [hK_sI, hK_sN, hK_sR, hK_S, k9], ?_, ?_⟩
  · have e : ∀ σ : PH, hL σ (9, s, 0) = 5 → hI σ (6, s, 0) 9 = nI m → vp_in (hI σ (6, s, 0) 9) (hL σ (9, s, 0)) := by
      intro σ h1 h2; rw [h2]; exact vinL 5 h1 hm (by decide)
    refine e _ (by simp [hL_sI, hL_sN, hL_sR, hL_S, l9]) ?_
    simp [hI_sI, hI_sN, hI_sR, hI_S, hk9]
  · rw [forall_eq]
    have e9 : ∀ σ : PH, hI σ (6, s, 0) 9 = nI m → Int32.toNatClampNeg (hI σ (6, s, 0) 9) = m := by
      intro σ h2; rw [h2, nI_clamp (by omega)]
    rw [e9 _ (by simp [hI_sI, hI_sN, hI_sR, hI_S, hk9])]
    have h1 := Kf_ms (p := p) (s := s) (m := m) (π := π) (π' := fun q => if q = m then m else π q) hs
    have h2 := Lf_ms (p := p) (s := s) (m := m) (π := π) (π' := fun q => if q = m then m else π q) hs
    have h3 := Rf_ms (p := p) (s := s) (m := m) (π := π) (π' := fun q => if q = m then m else π q) hs (if_pos rfl) (fun q hq => if_neg (by omega))
    refine S_goal (Q := Q) (p := setM p s (m + 1) (fun q => if q = m then m else π q)) (by rw [h1]; rfl) (by rw [h2]; rfl) (by rw [h3]; rfl) ?_
    exact hQ _
/-- the next message, told outright -/
def nxF (p : PP) (a : IF) (s : Nat) : PP × IF × Nat × Nat :=
  if tn (a (6, s, 0) 9) < 5 then
    (if tn (a (6, s, 0) 9) < gM p s then (setM p s (gM p s) (gP p s), begA a s (gP p s (tn (a (6, s, 0) 9))) (tn (a (6, s, 0) 9)) (a (6, s, 0) 10), gP p s (tn (a (6, s, 0) 9)), tn (a (6, s, 0) 9))
     else (setM p s (gM p s + 1) (fun q => if q = gM p s then gM p s else gP p s q), begA (mkA a s (gM p s)) s (gM p s) (tn (a (6, s, 0) 9)) (a (6, s, 0) 10), gM p s, tn (a (6, s, 0) 9)))
  else (setM p s (gM p s) (fgP (gP p s) 0 5), begA (up a (6, s, 0) 9 (nI 4)) s (fgP (gP p s) 0 5 4) 4 (a (6, s, 0) 10), fgP (gP p s) 0 5 4, 4)
theorem mkA_o {a : IF} {s m : Nat} {n : Nm} {j : Nat} (h2 : ¬ ((n.1 = 10 ∨ n.1 = 11 ∨ n.1 = 12 ∨ n.1 = 13) ∧ n.2 = (s, m))) : mkA a s m n j = a n j := by
  obtain ⟨r, k, z⟩ := n
  simp only [Prod.mk.injEq] at h2
  have ne : ∀ r', r' = 10 ∨ r' = 11 ∨ r' = 12 ∨ r' = 13 → ¬ ((r, k, z) : Nm) = (r', s, m) := by
    intro r' hr' e; simp only [Prod.mk.injEq] at e; exact h2 ⟨by omega, e.2⟩
  rw [mkA, up_ne (fun q => ne 10 (by omega) q.1), up_ne (fun q => ne 10 (by omega) q.1)]
  simp only [cl, ne 13 (by omega), ne 12 (by omega), ne 11 (by omega), ne 10 (by omega), if_false]
theorem NX_f {p : PP} {a : IF} {s : Nat} (hW : WF p a) (hs : s < gS p) : NX p a s (nxF p a s).1 (nxF p a s).2.1 (nxF p a s).2.2.1 (nxF p a s).2.2.2 := by
  obtain ⟨g1, g2, g3, g4, g5, g6, g7, g8, g9, g10, g11⟩ := hW.2.2 s hs
  obtain ⟨hk9, -, hkm⟩ := bn_tn g6 (by omega)
  unfold nxF
  generalize hK0 : tn (a (6, s, 0) 9) = K0 at hk9 hkm ⊢
  by_cases q : K0 < 5
  · rw [if_pos q]
    by_cases w : K0 < gM p s
    · rw [if_pos w]
      exact NX_mk (o := gP p s K0) (m := gM p s) (K := K0) hW hs g7 (Nat.le_refl _) g8 g10 w rfl (Or.inl hK0) (fun q hq => by rw [hK0]; congr 1; omega) (fun z hz _ => hz) (g11 _ (g8 _ w)) (fun _ _ _ _ => rfl)
    · rw [if_neg w]
      have hm : K0 = gM p s := by omega
      have p2 : (fun q => if q = gM p s then gM p s else gP p s q) (gM p s) = gM p s := if_pos rfl
      have p1 : ∀ q, q < gM p s → (fun q => if q = gM p s then gM p s else gP p s q) q = gP p s q := fun q hq => if_neg (by omega)
      generalize (fun q => if q = gM p s then gM p s else gP p s q) = π' at p1 p2 ⊢
      refine NX_mk (o := gM p s) (m := gM p s + 1) (K := K0) hW hs (by omega) (by omega) ?_ ?_ (by omega) (by rw [hm]; exact p2) (Or.inl hK0) ?_ (fun z hz hz2 => by omega) ?_ (fun n j _ h2 => mkA_o h2)
      · intro q hq
        by_cases w : q = gM p s
        · rw [w, p2]; omega
        · rw [p1 q (by omega)]; have := g8 q (by omega); omega
      · intro q r hq hr e
        by_cases w : q = gM p s
        · by_cases v : r = gM p s
          · omega
          · rw [w, p2, p1 r (by omega)] at e; have := g8 r (by omega); omega
        · by_cases v : r = gM p s
          · rw [v, p2, p1 q (by omega)] at e; have := g8 q (by omega); omega
          · rw [p1 q (by omega), p1 r (by omega)] at e; exact g10 q r (by omega) (by omega) e
      · intro q hq; rw [p1 q (by omega), hK0]; congr 1; omega
      · intro k; rw [mkA, up_ne (by simp), up_ne (by simp)]; simp [cl, zb0]
  · rw [if_neg q]
    have k5 : K0 = 5 := by omega
    subst k5
    have m5 : gM p s = 5 := by omega
    have g8' : ∀ q, q < gM p s → fgP (gP p s) 0 5 q < gM p s := fun q hq => fg_lt g8 (by omega) (by decide) hq
    exact NX_mk (o := fgP (gP p s) 0 5 4) (m := gM p s) (K := 4) hW hs g7 (Nat.le_refl _) g8' (fg_inj g10 (by omega) (by decide)) (by omega) rfl (Or.inr ⟨hK0, rfl⟩) (fun q hq => by rw [hK0]; unfold fgP shP; rw [if_neg (by omega), if_pos (by omega)]) (fun z hz _ => hz) (fun k => by rw [up_ne (by simp)]; exact g11 _ (g8' 4 (by omega)) k) (fun n j h1 _ => up_ne h1)
set_option maxHeartbeats 4000000 in
theorem c_next {p : PP} {a : IF} {J : JF} {s : Nat} (hW : WF p a) (hs : s < gS p) {Q : Option Nm → PH → Prop} (hQ : ∀ p' a' o K J', NX p a s p' a' o K → (p', a', o, K) = nxF p a s → Q (some (10, s, o)) (S p' a' J')) : w4_nextMessage (6, s, 0) (S p a J) Q := by
  obtain ⟨g1, g2, g3, g4, g5, g6, g7, g8, g9, g10, g11⟩ := hW.2.2 s hs
  obtain ⟨hk9, -, hkm⟩ := bn_tn g6 (by omega)
  generalize hK0 : tn (a (6, s, 0) 9) = K0 at hk9 hkm
  rw [show S p a J = S (setM p s (gM p s) (gP p s)) a J by rw [setM_id]]
  have k9 : ∀ m π, Kf (setM p s m π) (9, s, 0) = 12 := fun m π => kq9 (p := setM p s m π) hs
  have l9 : ∀ m π, Lf (setM p s m π) (9, s, 0) = 5 := fun m π => lq9 (p := setM p s m π) hs
  have r6 : ∀ m π, Rf (setM p s m π) (6, s, 0) 6 = some (9, s, 0) := fun m π => rq66 (p := setM p s m π) hs
  have c5 : (nI K0 < 5) ↔ K0 < 5 := by rw [show (5 : Int32) = nI 5 from rfl, nI_ltI (by omega) (by omega)]
  unfold w4_nextMessage
  rw [hI_S, hk9]
  refine ⟨kq6 hs, fun q => ⟨_, r6 _ _, k9 _ _, vinL 5 (l9 _ _) (c5.mp q) (by decide), ?_, ?_⟩, fun q => ?_⟩
  · rw [c5] at q
    rw [hR_S, nI_clamp (by omega)]
    intro e
    have hm : K0 = gM p s := by
      by_cases w : K0 < gM p s
      · rw [rq9' hs w] at e; cases e
      · omega
    have hk9' : a (6, s, 0) 9 = nI (gM p s) := by rw [← hm]; exact hk9
    refine ⟨(10, s, gM p s), (show Kf (setM p s (gM p s) (gP p s)) (10, s, gM p s) = 0 from Kz (by omega)), ?_⟩
    have key := c_make (J := J) (π := gP p s) hs (by omega) hk9' (Q := fun σ3 => ∀ σ4 : PH, σ4 = sI σ3 (6, s, 0) 9 ((hI σ3 (6, s, 0) 9) + 1) → ∀ σ5 : PH, σ5 = sI σ4 (6, s, 0) 10 ((hI σ4 (6, s, 0) 10) + 1) → w2_begin (10, s, gM p s) (hI σ5 (6, s, 0) 10) σ5 (fun σ6 => Q (some (10, s, gM p s)) σ6)) (fun J' σ4 e4 σ5 e5 => ?_)
    · exact key
    · have hπ : ∃ π', π' = (fun q => if q = gM p s then gM p s else gP p s q) := ⟨_, rfl⟩
      obtain ⟨π', hπ⟩ := hπ
      rw [← hπ] at e4
      have p1 : ∀ q, q < gM p s → π' q = gP p s q := fun q hq => by rw [hπ]; exact if_neg (by omega)
      have p2 : π' (gM p s) = gM p s := by rw [hπ]; exact if_pos rfl
      have hn : ∀ r, r = 10 ∨ r = 11 ∨ r = 12 ∨ r = 13 → ∀ k o j, (k, o) ≠ (s, gM p s) → ((6, k, o) : Nm) ≠ (r, s, gM p s) := fun r hr k o j _ e => by simp only [Prod.mk.injEq] at e; omega
      have fr : ∀ n j, ¬ (n = (6, s, 0) ∧ j = 9) → ¬ ((n.1 = 10 ∨ n.1 = 11 ∨ n.1 = 12 ∨ n.1 = 13) ∧ n.2 = (s, gM p s)) → mkA a s (gM p s) n j = a n j := by
        intro n j _ h2
        obtain ⟨r, k, z⟩ := n
        simp only [Prod.mk.injEq] at h2
        have ne : ∀ r', r' = 10 ∨ r' = 11 ∨ r' = 12 ∨ r' = 13 → ¬ ((r, k, z) : Nm) = (r', s, gM p s) := by
          intro r' hr' e; simp only [Prod.mk.injEq] at e; exact h2 ⟨by omega, e.2⟩
        rw [mkA, up_ne (fun q => ne 10 (by omega) q.1), up_ne (fun q => ne 10 (by omega) q.1)]
        simp only [cl, ne 13 (by omega), ne 12 (by omega), ne 11 (by omega), ne 10 (by omega), if_false]
      have e6 : ∀ j, mkA a s (gM p s) (6, s, 0) j = a (6, s, 0) j := by
        intro j; rw [mkA, up_ne (by simp), up_ne (by simp)]; simp [cl]
      refine (c_begin (m := gM p s + 1) (o := gM p s) (K := K0) (π := π') hs (by omega) (L := a (6, s, 0) 10) (e6 10) (hQ _ _ _ _ _ (NX_mk (o := gM p s) (m := gM p s + 1) (K := K0) hW hs (by omega) (by omega) ?_ ?_ (by omega) (by rw [hm]; exact p2) (Or.inl hK0) ?_ (fun z hz hz2 => by omega) ?_ fr) (by rw [nxF, hK0, if_pos q, if_neg (by omega), hπ])) σ4 (by rw [hI_S, e6, hk9] at e4; exact e4) σ5 e5).2
      · intro q hq
        by_cases w : q = gM p s
        · rw [w, p2]; omega
        · rw [p1 q (by omega)]; have := g8 q (by omega); omega
      · intro q r hq hr e
        by_cases w : q = gM p s
        · by_cases v : r = gM p s
          · omega
          · rw [w, p2, p1 r (by omega)] at e; have := g8 r (by omega); omega
        · by_cases v : r = gM p s
          · rw [v, p2, p1 q (by omega)] at e; have := g8 q (by omega); omega
          · rw [p1 q (by omega), p1 r (by omega)] at e; exact g10 q r (by omega) (by omega) e
      · intro q hq; rw [p1 q (by omega), hK0]; congr 1; omega
      · intro k; rw [mkA, up_ne (by simp), up_ne (by simp)]; simp [cl, zb0]
  · rw [c5] at q
    rw [hR_S, nI_clamp (by omega)]
    intro m2 e
    have w : K0 < gM p s := by
      by_cases w : K0 < gM p s
      · exact w
      · rw [rq9n' w] at e; cases e
    rw [rq9' hs w] at e
    cases e
    exact c_begin (m := gM p s) (o := gP p s K0) (K := K0) hs (g8 _ w) rfl (hQ _ _ _ _ _ (NX_mk (o := gP p s K0) (m := gM p s) (K := K0) hW hs g7 (Nat.le_refl _) g8 g10 w rfl (Or.inl hK0) (fun q hq => by rw [hK0]; congr 1; omega) (fun z hz _ => hz) (g11 _ (g8 _ w)) (fun _ _ _ _ => rfl)) (by rw [nxF, hK0, if_pos q, if_pos w]))
  · rw [c5] at q
    have k5 : K0 = 5 := by omega
    subst k5
    have m5 : gM p s = 5 := by omega
    refine c_forget (pl := 0) (K := 5) hs g7 hk9 (by omega) (by decide) g8 ?_
    have e4 : fgP (gP p s) 0 5 4 = gP p s 0 := rfl
    rw [hI_S, up_same]
    refine ⟨_, r6 _ _, k9 _ _, vinL (i := 4) 5 (l9 _ _) (by decide) (by decide), ?_, ?_⟩
    · rw [hR_S, nI_clamp (by decide), rq9' hs (by omega)]; intro e; cases e
    · rw [hR_S, nI_clamp (by decide), rq9' hs (by omega)]
      intro m2 e; cases e
      have g8' : ∀ q, q < gM p s → fgP (gP p s) 0 5 q < gM p s := fun q hq => fg_lt g8 (by omega) (by decide) hq
      exact c_begin (m := gM p s) (o := fgP (gP p s) 0 5 4) (K := 4) hs (g8' 4 (by omega)) (L := a (6, s, 0) 10) (up_nj (by decide)) (hQ _ _ _ _ _ (NX_mk (o := fgP (gP p s) 0 5 4) (m := gM p s) (K := 4) hW hs g7 (Nat.le_refl _) g8' (fg_inj g10 (by omega) (by decide)) (by omega) rfl (Or.inr ⟨hK0, rfl⟩) (fun q hq => by rw [hK0]; unfold fgP shP; rw [if_neg (by omega), if_pos (by omega)]) (fun z hz _ => hz) (fun k => by rw [up_ne (by simp)]; exact g11 _ (g8' 4 (by omega)) k) (fun n j h1 _ => up_ne h1)) (by rw [nxF, hK0, if_neg (by omega)]))
