/-! The class publishes. -/
theorem WF_up6 {p : PP} {a : IF} {s j : Nat} {v : Int32} (h : WF p a) (h1 : j ≠ 3) (h2 : j ≠ 4) (h3 : j ≠ 8) (h4 : j ≠ 9) (h7 : j = 7 → zb v) : WF p (up a (6, s, 0) j v) := by
  obtain ⟨w1, w2, w3⟩ := h
  have fl : ∀ r k z x, r ≠ 6 → up a (6, s, 0) j v (r, k, z) x = a (r, k, z) x := fun r k z x g => up_ne (fun q => by have := q.1; simp only [Prod.mk.injEq] at this; exact g this.1)
  have f6 : ∀ k x, x ≠ j → up a (6, s, 0) j v (6, k, 0) x = a (6, k, 0) x := fun k x g => up_ne (fun q => g q.2)
  refine ⟨?_, fun i hi => ?_, fun u hu => ?_⟩
  · unfold W1 at *
    simp only [fl 0 _ _ _ (by decide), fl 1 _ _ _ (by decide), fl 4 _ _ _ (by decide)]
    exact w1
  · have g := w2 i hi
    unfold IS at *
    simp only [fl 14 _ _ _ (by decide), fl 15 _ _ _ (by decide), fl 16 _ _ _ (by decide), fl 18 _ _ _ (by decide)]
    exact g
  · have g := w3 u hu
    unfold SS at *
    simp only [fl 7 _ _ _ (by decide), fl 10 _ _ _ (by decide), fl 13 _ _ _ (by decide), f6 _ 3 (Ne.symm h1), f6 _ 4 (Ne.symm h2), f6 _ 8 (Ne.symm h3), f6 _ 9 (Ne.symm h4)]
    refine ⟨?_, g.2⟩
    by_cases e : u = s ∧ j = 7
    · obtain ⟨rfl, rfl⟩ := e
      rw [up_same]; exact h7 rfl
    · rw [up_ne (fun q => e ⟨by have := q.1; simp only [Prod.mk.injEq] at this; exact this.2.1, q.2.symm⟩)]; exact g.1
theorem WF_up0 {p : PP} {a : IF} {v : Int32} (h : WF p a) (hv : bn v 0 10) : WF p (up a (0, 0, 0) 7 v) := by
  obtain ⟨w1, w2, w3⟩ := h
  have fl : ∀ r k z x, r ≠ 0 → up a (0, 0, 0) 7 v (r, k, z) x = a (r, k, z) x := fun r k z x g => up_ne (fun q => by have := q.1; simp only [Prod.mk.injEq] at this; exact g this.1)
  refine ⟨?_, fun i hi => ?_, fun u hu => ?_⟩
  · unfold W1 at *
    simp only [fl 1 _ _ _ (by decide), fl 4 _ _ _ (by decide), up_same]
    rw [up_nj (by decide), up_nj (by decide), up_nj (by decide)]
    exact ⟨w1.1, w1.2.1, w1.2.2.1, w1.2.2.2.1, w1.2.2.2.2.1, w1.2.2.2.2.2.1, hv, w1.2.2.2.2.2.2.2⟩
  · have g := w2 i hi
    unfold IS at *
    simp only [fl 14 _ _ _ (by decide), fl 15 _ _ _ (by decide), fl 16 _ _ _ (by decide), fl 18 _ _ _ (by decide)]
    exact g
  · have g := w3 u hu
    unfold SS at *
    simp only [fl 6 _ _ _ (by decide), fl 7 _ _ _ (by decide), fl 10 _ _ _ (by decide), fl 13 _ _ _ (by decide)]
    exact g
theorem Told_own {p : PP} {a : IF} {s i : Nat} {T : Int32} (h : Told p a s T) (hi : i < 32) (g : bq T i = true) : gW p i = s := by
  rw [h i hi] at g
  unfold toB rB fB at g
  have : own? p s i = true := by
    cases e : own? p s i with
    | true => rfl
    | false => rw [e] at g; simp at g
  simpa [own?] using this
def idl (a : IF) (s : Nat) (T : Int32) : IF := up a (6, s, 0) 12 (if T = 0 then a (6, s, 0) 12 + 1 else 0)
def losA (a : IF) (s : Nat) : IF := if a (6, s, 0) 13 + 1 < a (6, s, 0) 2 then up a (6, s, 0) 13 (a (6, s, 0) 13 + 1) else up (up a (6, s, 0) 13 (a (6, s, 0) 13 + 1)) (6, s, 0) 7 0
def z23 (a : IF) (s : Nat) : IF := up (up a (6, s, 0) 12 0) (6, s, 0) 13 0
/-- what a publishing may come to -/
def Pub (p : PP) (a : IF) (s : Nat) (p' : PP) (a' : IF) (r : Int32) : Prop := ∃ T, Told p a s T ∧
  ((T = 0 ∧ a (6, s, 0) 12 + 1 < a (6, s, 0) 1 ∧ p' = p ∧ a' = idl a s T ∧ r = 0) ∨
   (¬ (T = 0 ∧ a (6, s, 0) 12 + 1 < a (6, s, 0) 1) ∧
     ((a (0, 0, 0) 7 = 0 ∧ p' = p ∧ a' = losA (idl a s T) s ∧ r = 0) ∨
      (a (0, 0, 0) 7 ≠ 0 ∧ r = 1 ∧ T = 0 ∧ p' = p ∧ a' = z23 (up (up (idl a s T) (0, 0, 0) 7 (a (0, 0, 0) 7 - 1)) (6, s, 0) 11 (a (6, s, 0) 11 + 1)) s) ∨
      (a (0, 0, 0) 7 ≠ 0 ∧ r = 1 ∧ T ≠ 0 ∧ ∃ a1 o K, NX p (up (idl a s T) (0, 0, 0) 7 (a (0, 0, 0) 7 - 1)) s p' a1 o K ∧ a' = z23 (flL s o (tn (a (6, s, 0) 4)) T 0 (gT p) a1) s ∧ (p', a1, o, K) = nxF p (up (idl a s T) (0, 0, 0) 7 (a (0, 0, 0) 7 - 1)) s))))
theorem c_send {p : PP} {a : IF} {J : JF} {s : Nat} {T : Int32} (hW : WF p a) (hs : s < gS p) (hT : T ≠ 0 → ∀ i, i < gT p → bq T i = true → gW p i = s) {Q : PH → Prop} (h1 : T = 0 → Q (S p (z23 (up a (6, s, 0) 11 (a (6, s, 0) 11 + 1)) s) J)) (h2 : T ≠ 0 → ∀ p' a1 o K J', NX p a s p' a1 o K → (p', a1, o, K) = nxF p a s → Q (S p' (z23 (flL s o (tn (a (6, s, 0) 4)) T 0 (gT p) a1) s) J')) : w4_send (6, s, 0) T (S p a J) Q := by
  obtain ⟨g1, g2, g3, g4, g5, g6, g7, g8, g9, g10, g11⟩ := hW.2.2 s hs
  obtain ⟨hmo, hm1, hm2⟩ := bn_tn g4 (by decide)
  unfold w4_send
  refine ⟨fun e => ⟨kq6 hs, ?_⟩, fun e => ⟨kq6 hs, ?_⟩⟩
  · rw [forall_eq, forall_eq, forall_eq]
    exact h1 e
  · unfold w4_fillMessage
    refine ⟨kq6 hs, c_next hW hs (fun p' a1 o K J' hN hE => ⟨_, rfl, ?_⟩)⟩
    have hN' := hN
    obtain ⟨⟨m, π, hp⟩, n2, n3, n4, n5, n6, n7, n8, n9, n10, n11, n12, n13⟩ := hN
    subst hp
    refine ⟨cnt (gW p) s (gT p) - cnt (gW p) s 0 + 1, ?_⟩
    refine c_fillL (p := setM p s m π) (mo := tn (a (6, s, 0) 4)) hs n3 (by omega) (hT e) (gT p) 0 a1 0 (by show 0 + gT p = gT p; omega) n4 ?_ n12 (by omega) (fun y => ?_)
    · rw [n13 _ _ (by simp) (by simp)]; exact hmo
    · intro σ5 e5 σ6 e6
      rw [e6, e5]
      exact h2 e _ _ _ _ _ hN' hE
theorem c_publishes {p : PP} {a : IF} {J : JF} {s : Nat} (hW : WF p a) (hs : s < gS p) {Q : Int32 → PH → Prop} (hQ : ∀ p' a' r J', Pub p a s p' a' r → Q r (S p' a' J')) : w6_publishes (0, 0, 0) (6, s, 0) (S p a J) Q := by
  have h16 := hW.1.2.2.2.1
  obtain ⟨q0, q1, q2, q3⟩ := hW.1.2.2.2.2.2.2.1
  have hW2 : ∀ T, WF p (idl a s T) := fun T => WF_up6 hW (by decide) (by decide) (by decide) (by decide) (fun e => absurd e (by decide))
  have e0 : ∀ T, idl a s T (0, 0, 0) 7 = a (0, 0, 0) 7 := fun T => up_ne (by simp)
  have due : ∀ T, Told p a s T → ¬ (T = 0 ∧ a (6, s, 0) 12 + 1 < a (6, s, 0) 1) → (¬ a (0, 0, 0) 7 = 0 → ∀ σ3 : PH, σ3 = sI (S p (idl a s T) J) (0, 0, 0) 7 (a (0, 0, 0) 7 - 1) → w4_send (6, s, 0) T σ3 (fun σ4 => Q 1 σ4)) ∧ (a (0, 0, 0) 7 = 0 → w4_lose (6, s, 0) (S p (idl a s T) J) (fun σ5 => Q 0 σ5)) := by
    intro T hT hd
    refine ⟨fun e => ?_, fun e => ?_⟩
    · rw [forall_eq, sI_S]
      have hb : bn (a (0, 0, 0) 7 - 1) 0 10 := by
        rw [q3] at e ⊢
        rw [nI_e0 (by omega)] at e
        rw [nI_sub1 (by omega)]; exact bn_nI (by omega) (by omega)
      have f6 : ∀ j, j ≠ 12 → up (idl a s T) (0, 0, 0) 7 (a (0, 0, 0) 7 - 1) (6, s, 0) j = a (6, s, 0) j := fun j hj => by rw [up_ne (by simp), idl, up_nj hj]
      refine c_send (WF_up0 (hW2 T) hb) hs (fun _ i hi g => Told_own hT (by omega) g) (fun z => ?_) (fun z p' a1 o K J' hN hE => ?_)
      · rw [f6 11 (by decide)]
        exact hQ _ _ _ _ ⟨T, hT, Or.inr ⟨hd, Or.inr (Or.inl ⟨e, rfl, z, rfl, rfl⟩)⟩⟩
      · rw [f6 4 (by decide)]
        exact hQ _ _ _ _ ⟨T, hT, Or.inr ⟨hd, Or.inr (Or.inr ⟨e, rfl, z, a1, o, K, hN, rfl, hE⟩)⟩⟩
    · unfold w4_lose
      have g := hQ p (losA (idl a s T) s) 0 J ⟨T, hT, Or.inr ⟨hd, Or.inl ⟨e, rfl, rfl, rfl⟩⟩⟩
      refine ⟨kq6 hs, ?_⟩
      rw [forall_eq, sI_S, hI_S, up_same, up_nj (by decide)]
      refine ⟨fun z => ?_, fun z => ?_⟩
      · rw [hI_S] at z ⊢
        rw [losA, if_pos z] at g; exact g
      · rw [forall_eq, sI_S]
        rw [hI_S] at z ⊢
        rw [losA, if_neg z] at g; exact g
  unfold w6_publishes
  refine ⟨kq6 hs, c_findTold hW hs (fun T hT => ?_)⟩
  unfold w4_isSomethingDue
  refine ⟨fun e => ⟨kq6 hs, ?_⟩, fun e => ⟨kq6 hs, ?_⟩⟩
  · have ei : idl a s T = up a (6, s, 0) 12 (a (6, s, 0) 12 + 1) := by rw [idl, if_pos e]
    rw [forall_eq, sI_S, hI_S, up_same, up_nj (by decide)]
    refine ⟨fun z => ⟨fun w => absurd rfl w, fun _ => ?_⟩, fun z => ⟨fun _ => ⟨rfl, ?_⟩, fun w => absurd w (by decide)⟩⟩
    · have g := hQ p (idl a s T) 0 J ⟨T, hT, Or.inl ⟨e, z, rfl, rfl, rfl⟩⟩
      rw [ei] at g; exact g
    · have g := due T hT (fun w => z w.2)
      rw [ei] at g
      rw [hI_S, up_ne (by simp)]; exact g
  · have ei : idl a s T = up a (6, s, 0) 12 0 := by rw [idl, if_neg e]
    rw [forall_eq, sI_S]
    refine ⟨fun _ => ⟨rfl, ?_⟩, fun w => absurd w (by decide)⟩
    have g := due T hT (fun w => e w.1)
    rw [ei] at g
    rw [hI_S, up_ne (by simp)]; exact g
