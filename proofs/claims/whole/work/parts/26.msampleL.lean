theorem m_sampleS {p P : PP} {J : JF} {K : Int32 → PH → Prop} {Q : Int32 → PH → Prop} {a b : IF} {i t f : Nat} (hM : MX p a b) (hW : WF p a) (hi : i < gT p) (ht : t + 1 ≤ 5000) (hb : b (20, 0, 0) 1 = nI (t + 1)) (hT : TI p a i t) (next : ∀ b', MX p (samA p a i) b' → FR b b' → b' (20, 0, 0) 1 = nI (t + 1) → l7_goesOn_12 (20, 0, 0) K Q f (nI (i + 1)) (S P b' J)) : l7_goesOn_12 (20, 0, 0) K Q (f + 1) (nI i) (S P b J) := by
  have h16 := hW.1.2.2.2.1
  have hsl := hW.1.2.2.2.2.2.1 i hi
  have h4 := hW.1.2.1
  obtain ⟨h1, h2, h3, h4', h5, h6, sz, c, g1, g2, g3, g4, g5, g6⟩ := hW.2.1 i hi
  have hn := bn_tn h2 (by decide)
  obtain ⟨m1, m2, m3, m4, m5, m6, m7, m8, m9, m10, m11, m12, m13, m14⟩ := hM.2.2.1 i hi
  have vi : ∀ {σ : PH} {n : Nm}, hL σ n = 16 → vp_in (nI i) (hL σ n) := fun e => vinL 16 e (by omega) (by decide)
  have ho := (hM.2.1 _ hsl).1.1
  unfold l7_goesOn_12
  refine ⟨rfl, fun q => ?_, fun _ => ⟨_, rfl, rfl, vi rfl, _, rfl, rfl, ?_, ?_⟩⟩
  · rw [hI_S, hM.1.2.2.2.1, hW.1.2.2.1, nI_leI (by omega) (by omega)] at q; omega
  · rw [hI_S, nI_clamp (by omega), m1]; exact vinL 4 rfl (by omega) (by decide)
  rw [hI_S, nI_clamp (by omega), m1, nI_clamp (by omega), ho, nI_1]
  have hZ := next
  refine ⟨fun e => ?_, fun e => ⟨_, rfl, rfl, vi rfl, _, rfl, rfl, vi rfl, ?_, ?_⟩⟩
  · refine next b ?_ FR.rf hb
    rw [samA, if_pos e]; exact hM
  · rcases hT with q | q
    · exact absurd q e
    · rw [m4]; exact (q.1.step ht).2.2
  · rcases hT with q | q
    · exact absurd q e
    obtain ⟨s1, s2, s3⟩ := q.1.step ht
    obtain ⟨u, u1, u2, u3⟩ := q.2
    rw [hb, m3, m4]
    refine ⟨fun z => ?_, fun z => ?_⟩
    · refine next b ?_ FR.rf hb
      rw [samA, if_neg e, if_neg (fun y => z (s1.mp y))]
      exact MX_tick hM hi
    · have y := s1.mpr z
      have hx := hW.1.2.2.2.2.1 (tn (a (14, i, 0) 2)) (by omega)
      refine m_samples (by omega) (show tn (a (14, i, 0) 2) < 10 by omega) (by rw [m2]; exact hn.1) (hM.1.2.2.2.2 _ (by omega)) (v := fun k => a (17, i, 0) k) (m := fun k => a (18, i, 0) k) (c := c) (sz := sz) (d := a (16, i, 0) 1) ⟨by rw [m12]; exact g4, m13, m14⟩ g2 g3 g5 g6 (by rw [m5]; exact g1) m6 (fun y1 y2 => ?_) (fun y1 => ?_)
      · rw [m10, m7] at y2
        refine next b ?_ FR.rf hb
        rw [samA, if_neg e, if_pos y, if_neg (fun w => y2 ((far_iff hx h4').mp w))]
        exact MX_tick (MX_tick hM hi) hi
      · rw [m11, u3, nI_le0 (by omega), m10, m7] at y1
        have y2 := y1.resolve_left (by omega)
        refine next _ ?_ FR_enqR (by rw [enqR_o (Or.inl (by simp)) (Or.inl (by simp)) (Or.inl (by simp)) (Or.inl (by simp)) (Or.inl (by simp))]; exact hb)
        rw [samA, if_neg e, if_pos y, if_pos ((far_iff hx h4').mpr y2), g1, g4, tn, tn, nI_clamp (by omega), nI_clamp (by omega)]
        have key := MX_enq (d := a (16, i, 0) 1) (x := a (1, 0, 0) (tn (a (14, i, 0) 2))) (c := c) (MX_tick (v := a (15, i, 0) 0) (MX_tick (v := a (15, i, 0) 1 - 1) hM hi) hi) hi (show up (up a (15, i, 0) 1 (a (15, i, 0) 1 - 1)) (15, i, 0) 1 (a (15, i, 0) 0) (16, i, 0) 0 = nI sz by rw [up_ne (by simp), up_ne (by simp)]; exact g1)
        have e17 : (fun k => up (up a (15, i, 0) 1 (a (15, i, 0) 1 - 1)) (15, i, 0) 1 (a (15, i, 0) 0) (17, i, 0) k) = fun k => a (17, i, 0) k := by
          funext k; rw [up_ne (by simp), up_ne (by simp)]
        have e18 : (fun k => up (up a (15, i, 0) 1 (a (15, i, 0) 1 - 1)) (15, i, 0) 1 (a (15, i, 0) 0) (18, i, 0) k) = fun k => a (18, i, 0) k := by
          funext k; rw [up_ne (by simp), up_ne (by simp)]
        rw [e17, e18] at key
        exact key
/-- the items from i on stand at t, those before at t + 1 -/
def TIs (p : PP) (a : IF) (t i : Nat) : Prop := ∀ k, k < gT p → TI p a k (if k < i then t + 1 else t)
theorem TI.cg {p : PP} {a a' : IF} {i t : Nat} (h : ∀ r j, a' (r, i, 0) j = a (r, i, 0) j) (g : a' (6, gW p i, 0) 7 = a (6, gW p i, 0) 7) (k : TI p a i t) : TI p a' i t := by
  unfold TI at *
  rw [g]; simp only [h]; exact k
theorem TIs_samA {p : PP} {a : IF} {t i : Nat} (ht : t + 1 ≤ 5000) (hi : i < gT p) (h : TIs p a t i) : TIs p (samA p a i) t (i + 1) := by
  intro k hk
  by_cases e : k = i
  · subst e
    rw [if_pos (by omega)]
    have g := h k hk
    rw [if_neg (by omega)] at g
    exact TI_samA ht g
  · have g := h k hk
    have e2 : (if k < i + 1 then t + 1 else t) = if k < i then t + 1 else t := by
      by_cases z : k < i
      · rw [if_pos z, if_pos (by omega)]
      · rw [if_neg z, if_neg (by omega)]
    rw [e2]
    exact TI.cg (fun r j => samA_o (Or.inl e)) (samA_o (n := (6, gW p k, 0)) (Or.inr (Or.inl (show 6 < 14 by decide)))) g
theorem m_sampleL {p P : PP} {J : JF} {K : Int32 → PH → Prop} {Q : Int32 → PH → Prop} {t : Nat} (ht : t + 1 ≤ 5000) : ∀ (f i : Nat) (a b : IF), MX p a b → WF p a → i + f = gT p → b (20, 0, 0) 1 = nI (t + 1) → TIs p a t i → (∀ b', MX p (samL p a i f) b' → FR b b' → TIs p (samL p a i f) t (gT p) → K (nI (gT p)) (S P b' J)) → l7_goesOn_12 (20, 0, 0) K Q (f + 1) (nI i) (S P b J) := by
  intro f
  induction f with
  | zero =>
    intro i a b hM hW hi hb hT hK
    have h16 := hW.1.2.2.2.1
    have : i = gT p := by omega
    subst this
    unfold l7_goesOn_12
    refine ⟨rfl, fun _ => hK b hM FR.rf hT, fun q => absurd ?_ q⟩
    rw [hI_S, hM.1.2.2.2.1, hW.1.2.2.1, nI_leI (by omega) (by omega)]; exact Nat.le_refl _
  | succ f ih =>
    intro i a b hM hW hi hb hT hK
    have g := hT i (by omega)
    rw [if_neg (by omega)] at g
    refine m_sampleS hM hW (by omega) ht hb g (fun b' k1 k2 k3 => ?_)
    exact ih (i + 1) _ b' k1 (WF_samA hW (by omega)) (by omega) k3 (TIs_samA ht (by omega) hT) (fun b2 l1 l2 l3 => hK b2 l1 (k2.tr l2) l3)
