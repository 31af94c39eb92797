/-! The class's turns and ticks, as traces. -/
theorem WF_upt {p : PP} {a : IF} {s j : Nat} {v : Int32} (h : WF p a) (hj : j ≠ 0) : WF p (up a (7, s, 0) j v) := by
  obtain ⟨w1, w2, w3⟩ := h
  have fl : ∀ r k z x, (r ≠ 7 ∨ x = 0) → up a (7, s, 0) j v (r, k, z) x = a (r, k, z) x := fun r k z x g => up_ne (fun q => by have := q.1; simp only [Prod.mk.injEq] at this; have := q.2; omega)
  refine ⟨?_, fun i hi => ?_, fun u hu => ?_⟩
  · unfold W1 at *
    simp only [fl 0 _ _ _ (Or.inl (by decide)), fl 1 _ _ _ (Or.inl (by decide)), fl 4 _ _ _ (Or.inl (by decide))]
    exact w1
  · have g := w2 i hi
    unfold IS at *
    simp only [fl 14 _ _ _ (Or.inl (by decide)), fl 15 _ _ _ (Or.inl (by decide)), fl 16 _ _ _ (Or.inl (by decide)), fl 18 _ _ _ (Or.inl (by decide))]
    exact g
  · have g := w3 u hu
    unfold SS at *
    simp only [fl 6 _ _ _ (Or.inl (by decide)), fl 7 _ _ 0 (Or.inr rfl), fl 10 _ _ _ (Or.inl (by decide)), fl 13 _ _ _ (Or.inl (by decide))]
    exact g
theorem WF_now {p : PP} {a : IF} {v : Int32} (h : WF p a) (hv : bn v 0 5000) : WF p (up a (0, 0, 0) 8 v) := by
  obtain ⟨w1, w2, w3⟩ := h
  have fl : ∀ r k z x, r ≠ 0 → up a (0, 0, 0) 8 v (r, k, z) x = a (r, k, z) x := fun r k z x g => up_ne (fun q => by have := q.1; simp only [Prod.mk.injEq] at this; exact g this.1)
  refine ⟨?_, fun i hi => ?_, fun u hu => ?_⟩
  · unfold W1 at *
    simp only [fl 1 _ _ _ (by decide), fl 4 _ _ _ (by decide), up_same]
    rw [up_nj (by decide), up_nj (by decide), up_nj (by decide)]
    exact ⟨w1.1, w1.2.1, w1.2.2.1, w1.2.2.2.1, w1.2.2.2.2.1, w1.2.2.2.2.2.1, w1.2.2.2.2.2.2.1, hv, w1.2.2.2.2.2.2.2.2⟩
  · have g := w2 i hi
    unfold IS at *
    simp only [fl 14 _ _ _ (by decide), fl 15 _ _ _ (by decide), fl 16 _ _ _ (by decide), fl 18 _ _ _ (by decide)]
    exact g
  · have g := w3 u hu
    unfold SS at *
    simp only [fl 6 _ _ _ (by decide), fl 7 _ _ _ (by decide), fl 10 _ _ _ (by decide), fl 13 _ _ _ (by decide)]
    exact g
/-- what never changes in a pass -/
def SP (p p' : PP) : Prop := gS p' = gS p ∧ gT p' = gT p ∧ gO p' = gO p ∧ gW p' = gW p
theorem SP.rf {p : PP} : SP p p := ⟨rfl, rfl, rfl, rfl⟩
theorem SP.tr {p q r : PP} (h : SP p q) (g : SP q r) : SP p r := ⟨g.1.trans h.1, g.2.1.trans h.2.1, g.2.2.1.trans h.2.2.1, g.2.2.2.trans h.2.2.2⟩
theorem WF_z23 {p : PP} {a : IF} {s : Nat} (h : WF p a) : WF p (z23 a s) := WF_up6 (WF_up6 h (by decide) (by decide) (by decide) (by decide) (fun e => absurd e (by decide))) (by decide) (by decide) (by decide) (by decide) (fun e => absurd e (by decide))
theorem req_dec {p : PP} {a : IF} (h : WF p a) (e : a (0, 0, 0) 7 ≠ 0) : bn (a (0, 0, 0) 7 - 1) 0 10 := by
  obtain ⟨q0, q1, q2, q3⟩ := h.1.2.2.2.2.2.2.1
  rw [q3] at e ⊢
  rw [Ne, nI_e0 (by omega)] at e
  rw [nI_sub1 (by omega)]; exact bn_nI (by omega) (by omega)
theorem WF_idl {p : PP} {a : IF} {s : Nat} {T : Int32} (h : WF p a) : WF p (idl a s T) := WF_up6 h (by decide) (by decide) (by decide) (by decide) (fun e => absurd e (by decide))
theorem Pub_ok {p p' : PP} {a a' : IF} {s : Nat} {r : Int32} (hW : WF p a) (hs : s < gS p) (h : Pub p a s p' a' r) : WF p' a' ∧ SP p p' ∧ (r = 0 ∨ r = 1) := by
  obtain ⟨T, hT, h⟩ := h
  rcases h with ⟨-, -, rfl, rfl, rfl⟩ | ⟨-, ⟨-, rfl, rfl, rfl⟩ | ⟨e, rfl, -, rfl, rfl⟩ | ⟨e, rfl, e2, a1, o, K, hN, rfl, -⟩⟩
  · exact ⟨WF_idl hW, SP.rf, Or.inl rfl⟩
  · refine ⟨?_, SP.rf, Or.inl rfl⟩
    unfold losA
    split
    · exact WF_up6 (WF_idl hW) (by decide) (by decide) (by decide) (by decide) (fun e => absurd e (by decide))
    · exact WF_up6 (WF_up6 (WF_idl hW) (by decide) (by decide) (by decide) (by decide) (fun e => absurd e (by decide))) (by decide) (by decide) (by decide) (by decide) (fun _ => zb0)
  · exact ⟨WF_z23 (WF_up6 (WF_up0 (WF_idl hW) (req_dec hW e)) (by decide) (by decide) (by decide) (by decide) (fun e => absurd e (by decide))), SP.rf, Or.inr rfl⟩
  · obtain ⟨g1, g2, g3, g4, -⟩ := hW.2.2 s hs
    obtain ⟨-, -, hm2⟩ := bn_tn g4 (by decide)
    obtain ⟨⟨m, π, rfl⟩, n2, n3, n4, n5, n6, n7, n8, n9, n10, n11, n12, n13⟩ := hN
    obtain ⟨f1, -⟩ := flL_ok (p := setM p s m π) (T := T) (mo := tn (a (6, s, 0) 4)) hs n3 hm2 (gT p) 0 a1 0 (by show 0 + gT p = gT p; omega) n4 n12 (by omega)
    exact ⟨WF_z23 f1, ⟨rfl, rfl, rfl, rfl⟩, Or.inr rfl⟩
/-- a subscription's turn at a tick -/
def PT (p : PP) (a : IF) (u : Nat) (p' : PP) (a' : IF) (r : Int32) : Prop :=
  (a (6, u, 0) 7 = 0 ∧ p' = p ∧ a' = a ∧ r = 0) ∨ (a (6, u, 0) 7 ≠ 0 ∧ ¬ a (7, u, 0) 1 - 1 ≤ 0 ∧ p' = p ∧ a' = up a (7, u, 0) 1 (a (7, u, 0) 1 - 1) ∧ r = 0) ∨
  (a (6, u, 0) 7 ≠ 0 ∧ a (7, u, 0) 1 - 1 ≤ 0 ∧ Pub p (up (up a (7, u, 0) 1 (a (7, u, 0) 1 - 1)) (7, u, 0) 1 (a (7, u, 0) 0)) u p' a' r)
theorem PT_ok {p p' : PP} {a a' : IF} {u : Nat} {r : Int32} (hW : WF p a) (hu : u < gS p) (h : PT p a u p' a' r) : WF p' a' ∧ SP p p' ∧ (r = 0 ∨ r = 1) := by
  rcases h with ⟨-, rfl, rfl, rfl⟩ | ⟨-, -, rfl, rfl, rfl⟩ | ⟨-, -, h⟩
  · exact ⟨hW, SP.rf, Or.inl rfl⟩
  · exact ⟨WF_upt hW (by decide), SP.rf, Or.inl rfl⟩
  · exact Pub_ok (WF_upt (WF_upt hW (by decide)) (by decide)) hu h
def Tr (p0 : PP) (a0 : IF) : Nat → PP → IF → Int32 → Prop
  | 0, p, a, c => p = p0 ∧ a = a0 ∧ c = 0
  | t + 1, p, a, c => ∃ p1 a1 c1 r, Tr p0 a0 t p1 a1 c1 ∧ PT p1 a1 (gO p0 t) p a r ∧ c = c1 + r
/-- the turn names subscriptions -/
def OK (p : PP) : Prop := ∀ t, t < gS p → gO p t < gS p
theorem Tr_ok {p0 : PP} {a0 : IF} (hW : WF p0 a0) (hO : OK p0) : ∀ (t : Nat) (p : PP) (a : IF) (c : Int32), t ≤ gS p0 → Tr p0 a0 t p a c → WF p a ∧ SP p0 p := by
  intro t
  induction t with
  | zero => intro p a c _ h; obtain ⟨rfl, rfl, rfl⟩ := h; exact ⟨hW, SP.rf⟩
  | succ t ih =>
    intro p a c ht h
    obtain ⟨p1, a1, c1, r, h1, h2, h3⟩ := h
    obtain ⟨w, s⟩ := ih p1 a1 c1 (by omega) h1
    obtain ⟨w2, s2, -⟩ := PT_ok w (by rw [s.1]; exact hO t (by omega)) h2
    exact ⟨w2, s.tr s2⟩
theorem c_pubL {p0 : PP} {a0 : IF} (hW0 : WF p0 a0) (hO : OK p0) {K : Int32 → Int32 → PH → Prop} {Q : Int32 → PH → Prop} (hK : ∀ p a c J y, Tr p0 a0 (gS p0) p a c → K c y (S p a J)) : ∀ (d t : Nat) (p : PP) (a : IF) (c : Int32) (J : JF), t + d = gS p0 → Tr p0 a0 t p a c → l6_publishSubscriptions_4 (0, 0, 0) K Q (d + 1) c (nI t) (S p a J) := by
  intro d
  induction d with
  | zero =>
    intro t p a c J h hT
    obtain ⟨hW, hS⟩ := Tr_ok hW0 hO t p a c (by omega) hT
    have h4 := hW.1.2.1
    have : t = gS p0 := by omega
    subst this
    unfold l6_publishSubscriptions_4
    refine ⟨rfl, fun _ => hK _ _ _ _ _ hT, fun q => absurd ?_ q⟩
    rw [hI_S, hW.1.1, hS.1, nI_leI (by rw [← hS.1]; omega) (by rw [← hS.1]; omega)]; exact Nat.le_refl _
  | succ d ih =>
    intro t p a c J h hT
    obtain ⟨hW, hS⟩ := Tr_ok hW0 hO t p a c (by omega) hT
    have h4 := hW.1.2.1
    have hsl := hS.1
    have htp : t < gS p := by omega
    have hu : gO p0 t < gS p := by rw [hsl]; exact hO t (by omega)
    have hgo : gO p t = gO p0 t := by rw [hS.2.2.1]
    have nx : ∀ p' a' r J', PT p a (gO p0 t) p' a' r → l6_publishSubscriptions_4 (0, 0, 0) K Q (d + 1) (c + r) (nI (t + 1)) (S p' a' J') := fun p' a' r J' hp => ih (t + 1) p' a' (c + r) J' (by omega) ⟨p, a, c, r, hT, hp, rfl⟩
    unfold l6_publishSubscriptions_4
    refine ⟨rfl, fun q => ?_, fun _ => ⟨_, rfl, rfl, vinL 4 rfl (by omega) (by decide), ?_, ?_⟩⟩
    · rw [hI_S, hW.1.1, nI_leI (by omega) (by omega)] at q; omega
    · rw [hR_S, nI_clamp (by omega), rq21 htp]; intro e; cases e
    · rw [hR_S, nI_clamp (by omega), rq21 htp, hgo]
      intro m2 e; cases e
      rw [nI_1]
      refine ⟨kq6 hu, fun e => ?_, fun e => ⟨_, rq60 hu, kq7 hu, ?_⟩⟩
      · have g := nx p a 0 J (Or.inl ⟨e, rfl, rfl, rfl⟩)
        rw [Int32.add_zero] at g; exact g
      · refine c_tick (kq7 hu) rfl rfl (fun q => ⟨fun z => absurd z (by decide), fun _ => ?_⟩) (fun q => ⟨fun _ => ?_, fun z => absurd rfl z⟩)
        · refine c_publishes (WF_upt (WF_upt hW (by decide)) (by decide)) hu (fun p' a' r J' hp => ?_)
          have g := nx p' a' r J' (Or.inr (Or.inr ⟨e, q, hp⟩))
          refine ⟨fun z => ?_, fun z => ?_⟩
          · rw [z, Int32.add_zero] at g; exact g
          · rcases (Pub_ok (WF_upt (WF_upt hW (by decide)) (by decide)) hu hp).2.2 with y | y
            · exact absurd y z
            · rw [y] at g; exact g
        · have g := nx p (up a (7, gO p0 t, 0) 1 (a (7, gO p0 t, 0) 1 - 1)) 0 J (Or.inr (Or.inl ⟨e, q, rfl, rfl, rfl⟩))
          rw [Int32.add_zero] at g; exact g
/-- a tick -/
def TK (p : PP) (a : IF) (p' : PP) (a' : IF) (c : Int32) : Prop := Tr p (samL p (up a (0, 0, 0) 8 (a (0, 0, 0) 8 + 1)) 0 (gT p)) (gS p) p' a' c
def PS (p0 : PP) (a0 : IF) : Nat → PP → IF → Int32 → Prop
  | 0, p, a, c => p = p0 ∧ a = a0 ∧ c = 0
  | t + 1, p, a, c => ∃ p1 a1 c1 r, PS p0 a0 t p1 a1 c1 ∧ TK p1 a1 p a r ∧ c = c1 + r
theorem PT_now {p p' : PP} {a a' : IF} {u : Nat} {r : Int32} (h : PT p a u p' a' r) : a' (0, 0, 0) 8 = a (0, 0, 0) 8 := by
  rcases h with ⟨-, rfl, rfl, rfl⟩ | ⟨-, -, rfl, rfl, rfl⟩ | ⟨-, -, T, hT, h⟩
  · rfl
  · exact up_ne (by simp)
  · rcases h with ⟨-, -, rfl, rfl, rfl⟩ | ⟨-, ⟨-, rfl, rfl, rfl⟩ | ⟨e, rfl, -, rfl, rfl⟩ | ⟨e, rfl, e2, a1, o, K, hN, rfl, -⟩⟩
    · rw [idl, up_ne (by simp), up_ne (by simp), up_ne (by simp)]
    · unfold losA
      split
      · rw [up_ne (by simp), idl, up_ne (by simp), up_ne (by simp), up_ne (by simp)]
      · rw [up_ne (by simp), up_ne (by simp), idl, up_ne (by simp), up_ne (by simp), up_ne (by simp)]
    · rw [z23, up_ne (by simp), up_ne (by simp), up_ne (by simp), up_nj (by decide), idl, up_ne (by simp), up_ne (by simp), up_ne (by simp)]
    · obtain ⟨-, -, -, -, -, -, -, -, -, -, -, -, n13⟩ := hN
      rw [z23, up_ne (by simp), up_ne (by simp), flL_o ⟨fun q => by simp only at q; omega, fun q => by simp only at q; omega⟩, n13 _ _ (by simp) (by simp), up_nj (by decide), idl, up_ne (by simp), up_ne (by simp), up_ne (by simp)]
theorem Tr_now {p0 : PP} {a0 : IF} : ∀ (t : Nat) (p : PP) (a : IF) (c : Int32), Tr p0 a0 t p a c → a (0, 0, 0) 8 = a0 (0, 0, 0) 8 := by
  intro t
  induction t with
  | zero => intro p a c h; obtain ⟨rfl, rfl, rfl⟩ := h; rfl
  | succ t ih =>
    intro p a c h
    obtain ⟨p1, a1, c1, r, h1, h2, h3⟩ := h
    exact (PT_now h2).trans (ih p1 a1 c1 h1)
theorem TK_ok {p p' : PP} {a a' : IF} {c : Int32} {t : Nat} (hW : WF p a) (hO : OK p) (ht : a (0, 0, 0) 8 = nI t) (h5 : t + 1 ≤ 5000) (h : TK p a p' a' c) : WF p' a' ∧ SP p p' ∧ a' (0, 0, 0) 8 = nI (t + 1) := by
  have hw : WF p (up a (0, 0, 0) 8 (a (0, 0, 0) 8 + 1)) := WF_now hW (by rw [ht, nI_1]; exact bn_nI (by omega) h5)
  obtain ⟨g1, g2⟩ := Tr_ok (WF_samL (gT p) 0 _ hw (by omega)) hO (gS p) p' a' c (Nat.le_refl _) h
  refine ⟨g1, g2, ?_⟩
  rw [Tr_now _ _ _ _ h, samL_o (Or.inl (by decide)), up_same, ht, nI_1]
theorem PS_ok {p0 : PP} {a0 : IF} {t0 : Nat} (hW : WF p0 a0) (hO : OK p0) (ht : a0 (0, 0, 0) 8 = nI t0) : ∀ (k : Nat) (p : PP) (a : IF) (c : Int32), t0 + k ≤ 5000 → PS p0 a0 k p a c → WF p a ∧ SP p0 p ∧ a (0, 0, 0) 8 = nI (t0 + k) := by
  intro k
  induction k with
  | zero => intro p a c _ h; obtain ⟨rfl, rfl, rfl⟩ := h; exact ⟨hW, SP.rf, ht⟩
  | succ k ih =>
    intro p a c hk h
    obtain ⟨p1, a1, c1, r, h1, h2, h3⟩ := h
    obtain ⟨g1, g2, g3⟩ := ih p1 a1 c1 (by omega) h1
    have hO1 : OK p1 := fun t q => by rw [g2.1] at q ⊢; rw [g2.2.2.1]; exact hO t q
    obtain ⟨f1, f2, f3⟩ := TK_ok g1 hO1 g3 (by omega) h2
    exact ⟨f1, g2.tr f2, f3⟩
theorem c_passL {p0 : PP} {a0 : IF} {t0 n : Nat} (hW0 : WF p0 a0) (hO : OK p0) (ht : a0 (0, 0, 0) 8 = nI t0) (hn : t0 + n ≤ 5000) {K : Int32 → Int32 → PH → Prop} {Q : Int32 → PH → Prop} (hK : ∀ p a c J y, PS p0 a0 n p a c → K c y (S p a J)) : ∀ (d k : Nat) (p : PP) (a : IF) (c : Int32) (J : JF), k + d = n → PS p0 a0 k p a c → l6_pass_33 (0, 0, 0) (nI n) K Q (d + 1) c (nI k) (S p a J) := by
  intro d
  induction d with
  | zero =>
    intro k p a c J h hT
    have : k = n := by omega
    subst this
    unfold l6_pass_33
    exact ⟨fun _ => hK _ _ _ _ _ hT, fun q => absurd ((nI_leI (by omega) (by omega)).mpr (Nat.le_refl _)) q⟩
  | succ d ih =>
    intro k p a c J h hT
    obtain ⟨hW, hS, hnow⟩ := PS_ok hW0 hO ht k p a c (by omega) hT
    have hOp : OK p := fun t q => by rw [hS.1] at q ⊢; rw [hS.2.2.1]; exact hO t q
    have h4 := hW.1.2.1
    unfold l6_pass_33
    refine ⟨fun q => ?_, fun _ => ⟨rfl, ?_⟩⟩
    · rw [nI_leI (by omega) (by omega)] at q; omega
    · have hw : WF p (up a (0, 0, 0) 8 (a (0, 0, 0) 8 + 1)) := WF_now hW (by rw [hnow, nI_1]; exact bn_nI (by omega) (by omega))
      rw [forall_eq, sI_S]
      refine c_sampleItems hw ⟨gS p + 1, by omega, ?_⟩
      refine c_pubL (WF_samL (gT p) 0 _ hw (by omega)) hOp (fun p' a' c' J' y hp => ?_) (gS p) 0 _ _ _ _ (by omega) ⟨rfl, rfl, rfl⟩
      rw [nI_1]
      exact ih (k + 1) p' a' (c + c') J' (by omega) ⟨p, a, c, c', hT, hp, rfl⟩
