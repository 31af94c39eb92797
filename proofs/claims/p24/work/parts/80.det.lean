/-! The class's ways look at the class's ints alone; there is one way, and no other. -/
theorem CA.at_ {a a' : IF} (h : CA a a') (r k z j : Nat) (hr : r < 20) : a' (r, k, z) j = a (r, k, z) j := h _ _ hr
theorem CA.rf {a : IF} : CA a a := fun _ _ _ => rfl
theorem CA.tr {a b c : IF} (h : CA a b) (g : CA b c) : CA a c := fun n j q => (g n j q).trans (h n j q)
theorem CA.sy {a b : IF} (h : CA a b) : CA b a := fun n j q => (h n j q).symm
theorem CA_up {a a' : IF} (h : CA a a') (n : Nm) (j : Nat) (v : Int32) : CA (up a n j v) (up a' n j v) := fun m k hm => by
  by_cases e : m = n ∧ k = j
  · rw [e.1, e.2, up_same, up_same]
  · rw [up_ne e, up_ne e]; exact h m k hm
theorem CA_cl {a a' : IF} (h : CA a a') (n : Nm) : CA (cl a n) (cl a' n) := fun m k hm => by
  unfold cl
  by_cases e : m = n
  · rw [if_pos e, if_pos e]
  · rw [if_neg e, if_neg e]; exact h m k hm
theorem CA_setQ {a a' : IF} (h : CA a a') (i c : Nat) (v m : Nat → Int32) : CA (setQ a i c v m) (setQ a' i c v m) := fun n k hm => by
  unfold setQ
  by_cases e : n = (16, i, 0) ∧ k = 4
  · rw [if_pos e, if_pos e]
  · rw [if_neg e, if_neg e]
    by_cases e : n = (17, i, 0)
    · rw [if_pos e, if_pos e]
    · rw [if_neg e, if_neg e]
      by_cases e : n = (18, i, 0)
      · rw [if_pos e, if_pos e]
      · rw [if_neg e, if_neg e]; exact h n k hm
theorem CA_enq {a a' : IF} (h : CA a a') (i sz c : Nat) (d x : Int32) (v m : Nat → Int32) : CA (enq a i sz c d v m x) (enq a' i sz c d v m x) := by
  unfold enq
  rw [h.at_ 14 i 0 8 (by decide)]
  exact CA_up (CA_up (CA_setQ h _ _ _ _) _ _ _) _ _ _
theorem CA_samA {p : PP} {a a' : IF} (h : CA a a') (i : Nat) : CA (samA p a i) (samA p a' i) := by
  unfold samA
  simp only [h.at_ 6 _ _ _ (show 6 < 20 by decide), h.at_ 15 _ _ _ (show 15 < 20 by decide), h.at_ 14 _ _ _ (show 14 < 20 by decide), h.at_ 1 _ _ _ (show 1 < 20 by decide), h.at_ 16 _ _ _ (show 16 < 20 by decide), h.at_ 17 _ _ _ (show 17 < 20 by decide), h.at_ 18 _ _ _ (show 18 < 20 by decide)]
  by_cases e : a (6, gW p i, 0) 7 = 0
  · rw [if_pos e, if_pos e]; exact h
  · rw [if_neg e, if_neg e]
    by_cases e : a (15, i, 0) 1 - 1 ≤ 0
    · rw [if_pos e, if_pos e]
      by_cases e : far (a (1, 0, 0) (tn (a (14, i, 0) 2))) (a (14, i, 0) 9) (a (14, i, 0) 3)
      · rw [if_pos e, if_pos e]; exact CA_enq (CA_up (CA_up h _ _ _) _ _ _) _ _ _ _ _ _ _
      · rw [if_neg e, if_neg e]; exact CA_up (CA_up h _ _ _) _ _ _
    · rw [if_neg e, if_neg e]; exact CA_up h _ _ _
theorem CA_samL {p : PP} : ∀ (f i : Nat) (a a' : IF), CA a a' → CA (samL p a i f) (samL p a' i f) := by
  intro f
  induction f with
  | zero => intro i a a' h; exact h
  | succ f ih => intro i a a' h; exact ih (i + 1) _ _ (CA_samA h i)
theorem CA_idl {a a' : IF} (h : CA a a') (s : Nat) (T : Int32) : CA (idl a s T) (idl a' s T) := by
  unfold idl; rw [h.at_ 6 s 0 12 (by decide)]; exact CA_up h _ _ _
theorem CA_losA {a a' : IF} (h : CA a a') (s : Nat) : CA (losA a s) (losA a' s) := by
  unfold losA; rw [h.at_ 6 s 0 13 (by decide), h.at_ 6 s 0 2 (by decide)]
  by_cases e : a (6, s, 0) 13 + 1 < a (6, s, 0) 2
  · rw [if_pos e, if_pos e]; exact CA_up h _ _ _
  · rw [if_neg e, if_neg e]; exact CA_up (CA_up h _ _ _) _ _ _
theorem CA_z23 {a a' : IF} (h : CA a a') (s : Nat) : CA (z23 a s) (z23 a' s) := CA_up (CA_up h _ _ _) _ _ _
theorem CA_begA {a a' : IF} (h : CA a a') (s o K : Nat) (L : Int32) : CA (begA a s o K L) (begA a' s o K L) := CA_up (CA_up (CA_up (CA_up h _ _ _) _ _ _) _ _ _) _ _ _
theorem CA_mkA {a a' : IF} (h : CA a a') (s o : Nat) : CA (mkA a s o) (mkA a' s o) := CA_up (CA_up (CA_cl (CA_cl (CA_cl (CA_cl h _) _) _) _) _ _ _) _ _ _
theorem CA_gv1 {a a' : IF} (h : CA a a') (i s o : Nat) : CA (gv1 a i s o) (gv1 a' i s o) := by
  unfold gv1
  simp only [h.at_ 10 _ _ _ (show 10 < 20 by decide), h.at_ 16 _ _ _ (show 16 < 20 by decide), h.at_ 17 _ _ _ (show 17 < 20 by decide), h.at_ 18 _ _ _ (show 18 < 20 by decide)]
  exact CA_setQ (CA_up (CA_up (CA_up (CA_up h _ _ _) _ _ _) _ _ _) _ _ _) _ _ _ _
theorem CA_gvN {i s o : Nat} : ∀ (d : Nat) (a a' : IF), CA a a' → CA (gvN i s o d a) (gvN i s o d a') := by
  intro d
  induction d with
  | zero => intro a a' h; exact h
  | succ d ih => intro a a' h; exact ih _ _ (CA_gv1 h i s o)
theorem CA_giA {a a' : IF} (h : CA a a') (i s o mo : Nat) : CA (giA a i s o mo) (giA a' i s o mo) := by
  unfold giA
  rw [h.at_ 16 i 0 4 (by decide), h.at_ 10 s o 4 (by decide)]
  exact CA_gvN _ _ _ h
theorem CA_flL {s o mo : Nat} {T : Int32} : ∀ (d k : Nat) (a a' : IF), CA a a' → CA (flL s o mo T k d a) (flL s o mo T k d a') := by
  intro d
  induction d with
  | zero => intro k a a' h; exact h
  | succ d ih =>
    intro k a a' h
    rw [flL, flL]
    refine ih (k + 1) _ _ ?_
    cases bq T k with
    | true => exact CA_giA h _ _ _ _
    | false => exact h
theorem nxF_ca {p : PP} {a a' : IF} {s : Nat} (h : CA a a') : (nxF p a' s).1 = (nxF p a s).1 ∧ CA (nxF p a s).2.1 (nxF p a' s).2.1 ∧ (nxF p a' s).2.2 = (nxF p a s).2.2 := by
  unfold nxF
  rw [h.at_ 6 s 0 9 (by decide), h.at_ 6 s 0 10 (by decide)]
  by_cases e : tn (a (6, s, 0) 9) < 5
  · rw [if_pos e, if_pos e]
    by_cases e : tn (a (6, s, 0) 9) < gM p s
    · rw [if_pos e, if_pos e]; exact ⟨rfl, CA_begA h _ _ _ _, rfl⟩
    · rw [if_neg e, if_neg e]; exact ⟨rfl, CA_begA (CA_mkA h _ _) _ _ _ _, rfl⟩
  · rw [if_neg e, if_neg e]; exact ⟨rfl, CA_begA (CA_up h _ _ _) _ _ _ _, rfl⟩
theorem toB_ca {p : PP} {a a' : IF} (h : CA a a') (s i : Nat) : toB p a' s i = toB p a s i := by
  have f : ∀ k, fil a' k = fil a k := fun k => by unfold fil; rw [h.at_ 16 k 0 4 (by decide)]
  have r : ∀ k, rep a' k = rep a k := fun k => by unfold rep; rw [h.at_ 14 k 0 6 (by decide)]
  have t : ∀ n, tB p a' s i n = tB p a s i n := by
    intro n
    induction n with
    | zero => rfl
    | succ n ih => rw [tB, tB, ih, f, r, h.at_ 14 n 0 7 (by decide)]
  unfold toB rB fB
  rw [f, r, t]
theorem Told.ca {p : PP} {a a' : IF} {s : Nat} {T : Int32} (h : CA a a') (g : Told p a' s T) : Told p a s T := fun i hi => by rw [g i hi, toB_ca h]
theorem Pub_det {p p1 p2 : PP} {a a' a1 a2 : IF} {s : Nat} {r1 r2 : Int32} (h : CA a a') (g1 : Pub p a s p1 a1 r1) (g2 : Pub p a' s p2 a2 r2) : p1 = p2 ∧ r1 = r2 ∧ CA a1 a2 := by
  obtain ⟨T, hT, g1⟩ := g1
  obtain ⟨T', hT', g2⟩ := g2
  have e : T' = T := (Told.ca h hT').eq hT
  subst e
  rw [h.at_ 6 s 0 12 (by decide), h.at_ 6 s 0 1 (by decide), h.at_ 0 0 0 7 (by decide), h.at_ 6 s 0 4 (by decide)] at g2
  have c1 := CA_idl h s T'
  have c2 := CA_up c1 (0, 0, 0) 7 (a (0, 0, 0) 7 - 1)
  rcases g1 with ⟨u1, u2, rfl, rfl, rfl⟩ | ⟨u, g1⟩
  · rcases g2 with ⟨-, -, rfl, rfl, rfl⟩ | ⟨w, -⟩
    · exact ⟨rfl, rfl, c1⟩
    · exact absurd ⟨u1, u2⟩ w
  · rcases g2 with ⟨w1, w2, -⟩ | ⟨-, g2⟩
    · exact absurd ⟨w1, w2⟩ u
    · rcases g1 with ⟨u0, rfl, rfl, rfl⟩ | ⟨u0, rfl, uT, rfl, rfl⟩ | ⟨u0, rfl, uT, b1, o1, K1, -, rfl, E1⟩
      · rcases g2 with ⟨-, rfl, rfl, rfl⟩ | ⟨w0, -⟩ | ⟨w0, -⟩
        · exact ⟨rfl, rfl, CA_losA c1 s⟩
        · exact absurd u0 w0
        · exact absurd u0 w0
      · rcases g2 with ⟨w0, -⟩ | ⟨-, rfl, -, rfl, rfl⟩ | ⟨-, -, wT, -⟩
        · exact absurd w0 u0
        · refine ⟨rfl, rfl, CA_z23 ?_ s⟩
          rw [h.at_ 6 s 0 11 (by decide)]
          exact CA_up c2 _ _ _
        · exact absurd uT wT
      · rcases g2 with ⟨w0, -⟩ | ⟨-, -, wT, -⟩ | ⟨-, rfl, -, b2, o2, K2, -, rfl, E2⟩
        · exact absurd w0 u0
        · exact absurd wT uT
        · obtain ⟨n1, n2, n3⟩ := nxF_ca (p := p) (s := s) c2
          rw [← E1] at n1 n2 n3
          rw [← E2] at n1 n2 n3
          have n1 : p2 = p1 := n1
          have n2 : CA b1 b2 := n2
          have n3 : (o2, K2) = (o1, K1) := n3
          simp only [Prod.mk.injEq] at n3
          refine ⟨n1.symm, rfl, CA_z23 ?_ s⟩
          rw [n3.1]
          exact CA_flL _ _ _ _ n2
theorem PT_det {p p1 p2 : PP} {a a' a1 a2 : IF} {s : Nat} {r1 r2 : Int32} (h : CA a a') (g1 : PT p a s p1 a1 r1) (g2 : PT p a' s p2 a2 r2) : p1 = p2 ∧ r1 = r2 ∧ CA a1 a2 := by
  unfold PT at g2
  rw [h.at_ 6 s 0 7 (by decide), h.at_ 7 s 0 1 (by decide), h.at_ 7 s 0 0 (by decide)] at g2
  rcases g1 with ⟨u, rfl, rfl, rfl⟩ | ⟨u, v, rfl, rfl, rfl⟩ | ⟨u, v, g1⟩
  · rcases g2 with ⟨-, rfl, rfl, rfl⟩ | ⟨w, -⟩ | ⟨w, -⟩
    · exact ⟨rfl, rfl, h⟩
    · exact absurd u w
    · exact absurd u w
  · rcases g2 with ⟨w, -⟩ | ⟨-, -, rfl, rfl, rfl⟩ | ⟨-, w, -⟩
    · exact absurd w u
    · exact ⟨rfl, rfl, CA_up h _ _ _⟩
    · exact absurd w v
  · rcases g2 with ⟨w, -⟩ | ⟨-, w, -⟩ | ⟨-, -, g2⟩
    · exact absurd w u
    · exact absurd v w
    · exact Pub_det (CA_up (CA_up h _ _ _) _ _ _) g1 g2
theorem Tr_det {p0 : PP} {a0 a0' : IF} (h : CA a0 a0') : ∀ (t : Nat) (p1 p2 : PP) (a1 a2 : IF) (c1 c2 : Int32), Tr p0 a0 t p1 a1 c1 → Tr p0 a0' t p2 a2 c2 → p1 = p2 ∧ c1 = c2 ∧ CA a1 a2 := by
  intro t
  induction t with
  | zero =>
    intro p1 p2 a1 a2 c1 c2 h1 h2
    obtain ⟨rfl, rfl, rfl⟩ := h1
    obtain ⟨rfl, rfl, rfl⟩ := h2
    exact ⟨rfl, rfl, h⟩
  | succ t ih =>
    intro p1 p2 a1 a2 c1 c2 h1 h2
    obtain ⟨q1, b1, d1, r1, f1, f2, rfl⟩ := h1
    obtain ⟨q2, b2, d2, r2, g1, g2, rfl⟩ := h2
    obtain ⟨rfl, rfl, k3⟩ := ih _ _ _ _ _ _ f1 g1
    obtain ⟨rfl, rfl, l3⟩ := PT_det k3 f2 g2
    exact ⟨rfl, rfl, l3⟩
theorem TK_det {p p1 p2 : PP} {a a' a1 a2 : IF} {c1 c2 : Int32} (h : CA a a') (g1 : TK p a p1 a1 c1) (g2 : TK p a' p2 a2 c2) : p1 = p2 ∧ c1 = c2 ∧ CA a1 a2 := by
  unfold TK at g1 g2
  rw [h.at_ 0 0 0 8 (by decide)] at g2
  exact Tr_det (CA_samL _ _ _ _ (CA_up h _ _ _)) _ _ _ _ _ _ _ g1 g2
theorem PS_det {p0 : PP} {a0 a0' : IF} (h : CA a0 a0') : ∀ (t : Nat) (p1 p2 : PP) (a1 a2 : IF) (c1 c2 : Int32), PS p0 a0 t p1 a1 c1 → PS p0 a0' t p2 a2 c2 → p1 = p2 ∧ c1 = c2 ∧ CA a1 a2 := by
  intro t
  induction t with
  | zero =>
    intro p1 p2 a1 a2 c1 c2 h1 h2
    obtain ⟨rfl, rfl, rfl⟩ := h1
    obtain ⟨rfl, rfl, rfl⟩ := h2
    exact ⟨rfl, rfl, h⟩
  | succ t ih =>
    intro p1 p2 a1 a2 c1 c2 h1 h2
    obtain ⟨q1, b1, d1, r1, f1, f2, rfl⟩ := h1
    obtain ⟨q2, b2, d2, r2, g1, g2, rfl⟩ := h2
    obtain ⟨rfl, rfl, k3⟩ := ih _ _ _ _ _ _ f1 g1
    obtain ⟨rfl, rfl, l3⟩ := TK_det k3 f2 g2
    exact ⟨rfl, rfl, l3⟩
theorem bits_ex (f : Nat → Bool) : ∀ n, n ≤ 16 → ∃ T : Int32, ∀ i, i < 32 → bq T i = (decide (i < n) && f i) := by
  intro n
  induction n with
  | zero => intro _; exact ⟨0, fun i _ => by rw [bq_0]; simp⟩
  | succ n ih =>
    intro hn
    obtain ⟨T, hT⟩ := ih (by omega)
    cases e : f n with
    | false =>
      refine ⟨T, fun i hi => ?_⟩
      rw [hT i hi]
      by_cases g : i = n
      · subst g; rw [e]; simp
      · have : decide (i < n + 1) = decide (i < n) := by simp only [decide_eq_decide]; omega
        rw [this]
    | true =>
      refine ⟨T ||| (1 <<< (nI n &&& 31)), fun i hi => ?_⟩
      rw [bq_or, hT i hi, bq_shl1 n (by omega) i hi]
      by_cases g : i = n
      · subst g; rw [e]; simp
      · have : decide (i < n + 1) = decide (i < n) := by simp only [decide_eq_decide]; omega
        rw [this]; simp [g]
theorem Told_ex {p : PP} (a : IF) (s : Nat) (h : gT p ≤ 16) : ∃ T, Told p a s T := by
  obtain ⟨T, hT⟩ := bits_ex (fun i => toB p a s i) 16 (Nat.le_refl _)
  refine ⟨T, fun i hi => ?_⟩
  rw [hT i hi]
  by_cases g : i < 16
  · simp [g]
  · rw [toB_big (show gT p ≤ i by omega)]; simp
theorem Pub_ex {p : PP} {a : IF} {s : Nat} (hW : WF p a) (hs : s < gS p) : ∃ p' a' r, Pub p a s p' a' r := by
  obtain ⟨T, hT⟩ := Told_ex a s hW.1.2.2.2.1
  by_cases d : T = 0 ∧ a (6, s, 0) 12 + 1 < a (6, s, 0) 1
  · exact ⟨_, _, _, T, hT, Or.inl ⟨d.1, d.2, rfl, rfl, rfl⟩⟩
  · by_cases e : a (0, 0, 0) 7 = 0
    · exact ⟨_, _, _, T, hT, Or.inr ⟨d, Or.inl ⟨e, rfl, rfl, rfl⟩⟩⟩
    · by_cases z : T = 0
      · exact ⟨_, _, _, T, hT, Or.inr ⟨d, Or.inr (Or.inl ⟨e, rfl, z, rfl, rfl⟩)⟩⟩
      · have hw : WF p (up (idl a s T) (0, 0, 0) 7 (a (0, 0, 0) 7 - 1)) := WF_up0 (WF_idl hW) (req_dec hW e)
        exact ⟨_, _, _, T, hT, Or.inr ⟨d, Or.inr (Or.inr ⟨e, rfl, z, _, _, _, NX_f hw hs, rfl, rfl⟩)⟩⟩
theorem PT_ex {p : PP} {a : IF} {s : Nat} (hW : WF p a) (hs : s < gS p) : ∃ p' a' r, PT p a s p' a' r := by
  by_cases d : a (6, s, 0) 7 = 0
  · exact ⟨_, _, _, Or.inl ⟨d, rfl, rfl, rfl⟩⟩
  · by_cases e : a (7, s, 0) 1 - 1 ≤ 0
    · obtain ⟨p', a', r, h⟩ := Pub_ex (p := p) (s := s) (WF_upt (s := s) (j := 1) (v := a (7, s, 0) 0) (WF_upt (s := s) (j := 1) (v := a (7, s, 0) 1 - 1) hW (by decide)) (by decide)) hs
      exact ⟨p', a', r, Or.inr (Or.inr ⟨d, e, h⟩)⟩
    · exact ⟨_, _, _, Or.inr (Or.inl ⟨d, e, rfl, rfl, rfl⟩)⟩
theorem Tr_ex {p0 : PP} {a0 : IF} (hW : WF p0 a0) (hO : OK p0) : ∀ t, t ≤ gS p0 → ∃ p a c, Tr p0 a0 t p a c := by
  intro t
  induction t with
  | zero => intro _; exact ⟨_, _, _, rfl, rfl, rfl⟩
  | succ t ih =>
    intro ht
    obtain ⟨p, a, c, h⟩ := ih (by omega)
    obtain ⟨w, q⟩ := Tr_ok hW hO t p a c (by omega) h
    obtain ⟨p', a', r, g⟩ := PT_ex w (show gO p0 t < gS p by rw [q.1]; exact hO t (by omega))
    exact ⟨p', a', c + r, p, a, c, r, h, g, rfl⟩
theorem TK_ex {p : PP} {a : IF} {t : Nat} (hW : WF p a) (hO : OK p) (ht : a (0, 0, 0) 8 = nI t) (h5 : t + 1 ≤ 5000) : ∃ p' a' c, TK p a p' a' c := by
  have hw : WF p (up a (0, 0, 0) 8 (a (0, 0, 0) 8 + 1)) := WF_now hW (by rw [ht, nI_1]; exact bn_nI (by omega) h5)
  exact Tr_ex (WF_samL (gT p) 0 _ hw (by omega)) hO (gS p) (Nat.le_refl _)
theorem PS_ex {p0 : PP} {a0 : IF} {t0 : Nat} (hW : WF p0 a0) (hO : OK p0) (ht : a0 (0, 0, 0) 8 = nI t0) : ∀ k, t0 + k ≤ 5000 → ∃ p a c, PS p0 a0 k p a c := by
  intro k
  induction k with
  | zero => intro _; exact ⟨_, _, _, rfl, rfl, rfl⟩
  | succ k ih =>
    intro hk
    obtain ⟨p, a, c, h⟩ := ih (by omega)
    obtain ⟨g1, g2, g3⟩ := PS_ok hW hO ht k p a c (by omega) h
    obtain ⟨p', a', r, g⟩ := TK_ex g1 (show OK p from fun t q => by rw [g2.1] at q ⊢; rw [g2.2.2.1]; exact hO t q) g3 (by omega)
    exact ⟨p', a', c + r, p, a, c, r, h, g, rfl⟩
